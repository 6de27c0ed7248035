/-! the model's reader, at its command c -/
def Mst (M0 M : Mem) (tx : Nat → Nat) (L c : Nat) (r : Rdr) : Prop := (L ≤ 60 ∧ M 12 47 20 = nI L ∧ ∀ i, i < L → M 12 53 i = nI (tx i) ∧ tx i < 65536) ∧ (M 12 47 19 = nI r.2.1 ∧ M 12 47 21 = nI c ∧ M 12 47 22 = nI (!r.1).toNat) ∧ (r.2.1 ≤ L ∧ c < 15) ∧ (r.1 = true → ∀ j, j < r.2.2.1 → M 12 54 (6 * c + 1 + j) = nI (r.2.2.2 j)) ∧ ∀ a b k, ¬ (a = 12 ∧ (b = 47 ∧ (k = 19 ∨ k = 22) ∨ b = 54 ∧ 6 * c < k ∧ k < 6 * c + 6)) → M a b k = M0 a b k
theorem m_here {M0 M : Mem} {tx : Nat → Nat} {L c j : Nat} {r : Rdr} (h : Mst M0 M tx L c r) (hj : j < 10) : f_X12_here (nI j) M = some (pk tx L (r.2.1 + j)) := by
  obtain ⟨⟨h1, h2, h3⟩, ⟨h4, h5, h6⟩, ⟨h7, h8⟩, h9, h10⟩ := h
  unfold f_X12_here pk
  by_cases q : r.2.1 + j < L
  · rw [if_pos q]
    simp (disch := omega) only [lit_0, lit_1, lit_2, lit_3, lit_4, lit_5, lit_6, lit_7, lit_8, lit_9, lit_10, lit_11, lit_12, lit_13, lit_14, lit_15, lit_16, lit_20, lit_23, lit_24, lit_31, lit_32, lit_39, lit_43, lit_45, lit_47, lit_48, lit_56, lit_57, lit_59, lit_60, lit_62, lit_63, lit_89, lit_92, lit_96, lit_97, lit_99, lit_100, lit_102, lit_103, lit_104, lit_110, lit_111, lit_115, lit_117, lit_194, lit_200, lit_644, lit_736, lit_999, lit_1000, lit_9999, lit_10000, lit_1000000000, ↓wp_mlet, ↓wp_mbp, ↓wp_ite, ↓wp_mix, ↓wp_mdiv, ↓wp_mnz, ↓wp_some, ↓wp_mbnd, ↓mlet_eq, ↓mbp_eq, ↓mbnd_eq, ↓mix_ite, ↓mdiv_ite, ↓mnz_ite, nI_add, nI_mul, nI_nat, nI_ltE, nI_leE, nI_eqE, nI_eqN, nI_Neq, nI_Nlt, nI_Nle, nI_ltN, nI_leN, ↓reduceIte, ↓Nat.reduceEqDiff, and_f, nt_e, nt_t, nl_t, nl_f, ne_t, ne_f, and_self, or_self, or_true, true_or, or_false, false_or, if_true, if_false, and_true, true_and, and_false, false_and, not_true, not_false_iff, h2, h4, (h3 (r.2.1 + j) q).1]
  · rw [if_neg q]
    simp (disch := omega) only [lit_0, lit_1, lit_2, lit_3, lit_4, lit_5, lit_6, lit_7, lit_8, lit_9, lit_10, lit_11, lit_12, lit_13, lit_14, lit_15, lit_16, lit_20, lit_23, lit_24, lit_31, lit_32, lit_39, lit_43, lit_45, lit_47, lit_48, lit_56, lit_57, lit_59, lit_60, lit_62, lit_63, lit_89, lit_92, lit_96, lit_97, lit_99, lit_100, lit_102, lit_103, lit_104, lit_110, lit_111, lit_115, lit_117, lit_194, lit_200, lit_644, lit_736, lit_999, lit_1000, lit_9999, lit_10000, lit_1000000000, ↓wp_mlet, ↓wp_mbp, ↓wp_ite, ↓wp_mix, ↓wp_mdiv, ↓wp_mnz, ↓wp_some, ↓wp_mbnd, ↓mlet_eq, ↓mbp_eq, ↓mbnd_eq, ↓mix_ite, ↓mdiv_ite, ↓mnz_ite, nI_add, nI_mul, nI_nat, nI_ltE, nI_leE, nI_eqE, nI_eqN, nI_Neq, nI_Nlt, nI_Nle, nI_ltN, nI_leN, ↓reduceIte, ↓Nat.reduceEqDiff, and_f, nt_e, nt_t, nl_t, nl_f, ne_t, ne_f, and_self, or_self, or_true, true_or, or_false, false_or, if_true, if_false, and_true, true_and, and_false, false_and, not_true, not_false_iff, h2, h4]
/-- place and mark set anew -/
theorem Mst.set {M0 M M1 : Mem} {tx : Nat → Nat} {L c p : Nat} {r : Rdr} {ok : Bool} (h : Mst M0 M tx L c r) (hp : p ≤ L) (hok : ok = true → r.1 = true) (e19 : M1 12 47 19 = nI p) (e22 : M1 12 47 22 = nI (!ok).toNat) (hf : ∀ a b k, ¬ (a = 12 ∧ b = 47 ∧ (k = 19 ∨ k = 22)) → M1 a b k = M a b k) : Mst M0 M1 tx L c (ok, p, r.2.2) := by
  obtain ⟨⟨h1, h2, h3⟩, ⟨h4, h5, h6⟩, ⟨h7, h8⟩, h9, h10⟩ := h
  refine ⟨⟨h1, ?_, fun i hi => ?_⟩, ⟨e19, ?_, e22⟩, ⟨hp, h8⟩, fun hr j hj => ?_, fun a b k hab => ?_⟩
  · rw [hf 12 47 20 (by decide)]; exact h2
  · rw [hf 12 53 i (by omega)]; exact h3 i hi
  · rw [hf 12 47 21 (by decide)]; exact h5
  · rw [hf 12 54 _ (by omega)]; exact h9 (hok hr) j hj
  · rw [hf a b k (by omega)]; exact h10 a b k hab
theorem lit_nil {tx : Nat → Nat} {L : Nat} {r : Rdr} : lit tx L [] r = r := by
  unfold lit
  by_cases h : r.1 = true
  · rw [if_pos h]
    exact Prod.ext h.symm rfl
  · rw [if_neg h]
theorem lit_ct {tx : Nat → Nat} {L : Nat} {k : Int32} {cs : List Int32} {r : Rdr} (hr : r.1 = true) (q : isAt tx L r.2.1 k = true) : lit tx L (k :: cs) r = lit tx L cs (true, r.2.1 + 1, r.2.2) := by
  unfold lit
  rw [if_pos hr, if_pos rfl, ml_c, if_pos q, List.length_cons]
  refine Prod.ext (dec_cg ?_) (Prod.ext ?_ rfl)
  · show 1 + ml tx L cs (r.2.1 + 1) = cs.length + 1 ↔ ml tx L cs (r.2.1 + 1) = cs.length
    omega
  · show r.2.1 + (1 + ml tx L cs (r.2.1 + 1)) = r.2.1 + 1 + ml tx L cs (r.2.1 + 1)
    omega
theorem lit_cf {tx : Nat → Nat} {L : Nat} {k : Int32} {cs : List Int32} {r : Rdr} (hr : r.1 = true) (q : ¬ isAt tx L r.2.1 k = true) : lit tx L (k :: cs) r = (false, r.2) := by
  unfold lit
  rw [if_pos hr, ml_c, if_neg q, List.length_cons]
  rfl
theorem m_saysL {M0 : Mem} {tx : Nat → Nat} {L c t : Nat} (hlen : mTl.getD t 0 = (mTx.getD t []).length) (h8 : (mTx.getD t []).length ≤ 8) (kk : Mem → Option (Unit × Mem)) : ∀ (cs : List Int32) (x N : Nat) (r : Rdr) (M : Mem), (mTx.getD t []).drop x = cs → x + cs.length = (mTx.getD t []).length → cs.length + 1 < N → (∀ k, k ∈ cs → ∃ j, j < 65536 ∧ k = nI j) → Mst M0 M tx L c r → ∃ M1, Mst M0 M1 tx L c (lit tx L cs r) ∧ f_X12_says_L2 t N (nI x) M kk = kk M1 := by
  have stop : ∀ (x n : Nat) (r : Rdr) (M : Mem), x ≤ 100 → ¬ r.1 = true → Mst M0 M tx L c r → f_X12_says_L2 t (n + 1) (nI x) M kk = kk M := by
    intro x n r M hx hr h
    have hr2 : r.1 = false := by simpa using hr
    have e22 := h.2.1.2.2
    rw [hr2] at e22
    rw [f_X12_says_L2.eq_2, e22]
    by_cases q : Int32.ofNat (mTl.getD t 0) ≤ nI x
    · rw [if_pos q]
    · rw [if_neg q, if_neg (by decide)]
  intro cs
  induction cs with
  | nil =>
    intro x N r M h1 h2 h3 hcs h
    obtain ⟨n, rfl⟩ : ∃ n, N = n + 1 := ⟨N - 1, by omega⟩
    rw [List.length_nil] at h2
    have e1 : Int32.ofNat (mTl.getD t 0) = nI x := by rw [hlen, ← h2]; rfl
    rw [lit_nil, f_X12_says_L2.eq_2, e1, if_pos (by rw [nI_leE (by omega) (by omega)]; omega)]
    exact ⟨M, h, rfl⟩
  | cons k cs ih =>
    intro x N r M h1 h2 h3 hcs h
    obtain ⟨n, rfl⟩ : ∃ n, N = n + 1 := ⟨N - 1, by omega⟩
    rw [List.length_cons] at h2 h3
    by_cases hr : r.1 = true
    · obtain ⟨g1, g2⟩ := getD_drop h1
      have g1' : (mTx.getD t []).getD x (nI 0) = k := g1
      have e1 : Int32.ofNat (mTl.getD t 0) = nI (x + (cs.length + 1)) := by rw [hlen, ← h2]; rfl
      have h' := h
      obtain ⟨⟨t1, t2, t3⟩, ⟨t4, t5, t6⟩, ⟨t7, t8⟩, t9, t10⟩ := h'
      have eh := m_here (j := 0) h (by decide)
      rw [Nat.add_zero] at eh
      obtain ⟨kn, hk1, hk2⟩ := hcs k (by simp)
      have ek := pk_at (tx := tx) (L := L) (p := r.2.1) (c := kn) (fun i hi => (t3 i hi).2) hk1
      rw [hr] at t6
      have t6' : M 12 47 22 = nI 0 := t6
      rw [f_X12_says_L2.eq_2, e1, if_neg (by rw [nI_leE (by omega) (by omega)]; omega), t6']
      simp only [lit_0, lit_1, lit_2, lit_3, lit_4, lit_5, lit_6, lit_7, lit_8, lit_9, lit_10, lit_11, lit_12, lit_13, lit_14, lit_15, lit_16, lit_20, lit_23, lit_24, lit_31, lit_32, lit_39, lit_43, lit_45, lit_47, lit_48, lit_56, lit_57, lit_59, lit_60, lit_62, lit_63, lit_89, lit_92, lit_96, lit_97, lit_99, lit_100, lit_102, lit_103, lit_104, lit_110, lit_111, lit_115, lit_117, lit_194, lit_200, lit_644, lit_736, lit_999, lit_1000, lit_9999, lit_10000, lit_1000000000]
      rw [if_pos trivial, eh, mbp_eq, nI_mix (by rw [hlen]; omega) (by omega), nI_nat (by omega), g1']
      by_cases q : isAt tx L r.2.1 k = true
      · have q2 : pk tx L r.2.1 = k := by rw [hk2, ek, ← hk2]; exact q
        have l := (isAt_lt q).1
        have h2' : Mst M0 (mup (mup M 12 47 22 (nI 0)) 12 47 19 (nI (r.2.1 + 1))) tx L c (true, r.2.1 + 1, r.2.2) := h.set (by omega) (fun _ => hr) (by rw [mup_at, if_pos (by decide)]) (by rw [mup_at, if_neg (by decide), mup_at, if_pos (by decide)]; rfl) (fun a b k' hab => by rw [mup_at, if_neg (by omega), mup_at, if_neg (by omega)])
        obtain ⟨M1, k1, k2⟩ := ih (x + 1) n _ _ g2 (by omega) (by omega) (fun k' hk' => hcs k' (by simp [hk'])) h2'
        refine ⟨M1, by rw [lit_ct hr q]; exact k1, ?_⟩
        have x22 : (mup M 12 47 22 (nI 0)) 12 47 22 = nI 0 := by rw [mup_at, if_pos (by decide)]
        have x19 : (mup M 12 47 22 (nI 0)) 12 47 19 = nI r.2.1 := by rw [mup_at, if_neg (by decide)]; exact t4
        simp (disch := omega) only [lit_0, lit_1, lit_2, lit_3, lit_4, lit_5, lit_6, lit_7, lit_8, lit_9, lit_10, lit_11, lit_12, lit_13, lit_14, lit_15, lit_16, lit_20, lit_23, lit_24, lit_31, lit_32, lit_39, lit_43, lit_45, lit_47, lit_48, lit_56, lit_57, lit_59, lit_60, lit_62, lit_63, lit_89, lit_92, lit_96, lit_97, lit_99, lit_100, lit_102, lit_103, lit_104, lit_110, lit_111, lit_115, lit_117, lit_194, lit_200, lit_644, lit_736, lit_999, lit_1000, lit_9999, lit_10000, lit_1000000000, ↓wp_mlet, ↓wp_mbp, ↓wp_ite, ↓wp_mix, ↓wp_mdiv, ↓wp_mnz, ↓wp_some, ↓wp_mbnd, ↓mlet_eq, ↓mbp_eq, ↓mbnd_eq, ↓mix_ite, ↓mdiv_ite, ↓mnz_ite, nI_add, nI_mul, nI_nat, nI_ltE, nI_leE, nI_eqE, nI_eqN, nI_Neq, nI_Nlt, nI_Nle, nI_ltN, nI_leN, ↓reduceIte, ↓Nat.reduceEqDiff, and_f, nt_e, nt_t, nl_t, nl_f, ne_t, ne_f, and_self, or_self, or_true, true_or, or_false, false_or, if_true, if_false, and_true, true_and, and_false, false_and, not_true, not_false_iff, q2, x22, x19]
        exact k2
      · have q2 : ¬ pk tx L r.2.1 = k := by rw [hk2, ek, ← hk2]; exact q
        have h2' : Mst M0 (mup (mup M 12 47 22 (nI 1)) 12 47 19 (nI r.2.1)) tx L c (false, r.2.1, r.2.2) := h.set t7 (fun e => (by cases e)) (by rw [mup_at, if_pos (by decide)]) (by rw [mup_at, if_neg (by decide), mup_at, if_pos (by decide)]; rfl) (fun a b k' hab => by rw [mup_at, if_neg (by omega), mup_at, if_neg (by omega)])
        refine ⟨_, by rw [lit_cf hr q]; exact h2', ?_⟩
        have x22 : (mup M 12 47 22 (nI 1)) 12 47 22 = nI 1 := by rw [mup_at, if_pos (by decide)]
        have x19 : (mup M 12 47 22 (nI 1)) 12 47 19 = nI r.2.1 := by rw [mup_at, if_neg (by decide)]; exact t4
        simp (disch := omega) only [mlet_eq]
        rw [if_neg q2]
        simp (disch := omega) only [lit_0, lit_1, lit_2, lit_3, lit_4, lit_5, lit_6, lit_7, lit_8, lit_9, lit_10, lit_11, lit_12, lit_13, lit_14, lit_15, lit_16, lit_20, lit_23, lit_24, lit_31, lit_32, lit_39, lit_43, lit_45, lit_47, lit_48, lit_56, lit_57, lit_59, lit_60, lit_62, lit_63, lit_89, lit_92, lit_96, lit_97, lit_99, lit_100, lit_102, lit_103, lit_104, lit_110, lit_111, lit_115, lit_117, lit_194, lit_200, lit_644, lit_736, lit_999, lit_1000, lit_9999, lit_10000, lit_1000000000, ↓wp_mlet, ↓wp_mbp, ↓wp_ite, ↓wp_mix, ↓wp_mdiv, ↓wp_mnz, ↓wp_some, ↓wp_mbnd, ↓mlet_eq, ↓mbp_eq, ↓mbnd_eq, ↓mix_ite, ↓mdiv_ite, ↓mnz_ite, nI_add, nI_mul, nI_nat, nI_ltE, nI_leE, nI_eqE, nI_eqN, nI_Neq, nI_Nlt, nI_Nle, nI_ltN, nI_leN, ↓reduceIte, ↓Nat.reduceEqDiff, and_f, nt_e, nt_t, nl_t, nl_f, ne_t, ne_f, and_self, or_self, or_true, true_or, or_false, false_or, if_true, if_false, and_true, true_and, and_false, false_and, not_true, not_false_iff, x22, x19, Nat.add_zero]
        obtain ⟨n', rfl⟩ : ∃ n', n = n' + 1 := ⟨n - 1, by omega⟩
        exact stop (x + 1) n' _ _ (by omega) (fun e => (by cases e)) h2'
    · rw [lit_no hr]
      exact ⟨M, h, stop x n r M (by omega) hr h⟩
theorem m_says {M0 M : Mem} {tx : Nat → Nat} {L c t : Nat} {r : Rdr} (hlen : mTl.getD t 0 = (mTx.getD t []).length) (h8 : (mTx.getD t []).length ≤ 8) (hcs : ∀ k, k ∈ mTx.getD t [] → ∃ j, j < 65536 ∧ k = nI j) (h : Mst M0 M tx L c r) : wp (f_X12_says t M) fun _ M1 => Mst M0 M1 tx L c (lit tx L (mTx.getD t []) r) := by
  obtain ⟨M1, h1, e⟩ := m_saysL hlen h8 (fun M15 => some ((), M15)) (mTx.getD t []) 0 1000 r M rfl (by rw [Nat.zero_add]) (by omega) hcs h
  unfold f_X12_says
  have e0 : f_X12_says_L2 t 1000 0 M (fun M15 => some ((), M15)) = f_X12_says_L2 t 1000 (nI 0) M (fun M15 => some ((), M15)) := rfl
  rw [e0, e, wp_some]
  exact h1
theorem in_dig {M : Mem} {tx : Nat → Nat} {L p : Nat} (h : ∀ i, i < L → tx i < 65536) : f_X12_in (pk tx L p) (nI 48) (nI 57) M = some (nI (isD tx L p).toNat) := by
  unfold f_X12_in pk isD
  by_cases q : p < L
  · have := h p q
    rw [if_pos q, decide_eq_true q, Bool.true_and]
    by_cases q1 : 48 ≤ tx p
    · by_cases q2 : tx p ≤ 57
      · rw [if_neg (by rw [nI_ltE (by omega) (by omega)]; omega), if_neg (by rw [nI_ltE (by omega) (by omega)]; omega), decide_eq_true q1, decide_eq_true q2]
        rfl
      · rw [if_neg (by rw [nI_ltE (by omega) (by omega)]; omega), if_pos (by rw [nI_ltE (by omega) (by omega)]; omega), decide_eq_true q1, decide_eq_false q2]
        rfl
    · rw [if_pos (by rw [nI_ltE (by omega) (by omega)]; omega), decide_eq_false q1]
      rfl
  · rw [if_neg q, decide_eq_false q, if_pos (by decide)]
    rfl
/-- the digits -/
theorem m_digits {M0 : Mem} {tx : Nat → Nat} {L c m : Nat} (kk : Int32 → Int32 → Mem → Option (Unit × Mem)) : ∀ d N x v (r : Rdr) (M : Mem), x + d = m → d < N → m ≤ 2 → r.1 = true → Mst M0 M tx L c r → ∃ M1, Mst M0 M1 tx L c (true, r.2.1 + dgc tx L d r.2.1, r.2.2) ∧ f_X12_number_L11 (nI m) N (nI v) (nI x) M kk = kk (nI (dgv tx L d r.2.1 v)) (nI (x + dgc tx L d r.2.1)) M1 := by
  intro d
  induction d with
  | zero =>
    intro N x v r M h1 h2 hm hr h
    obtain ⟨n, rfl⟩ : ∃ n, N = n + 1 := ⟨N - 1, by omega⟩
    have e22 : M 12 47 22 = nI 0 := by have := h.2.1.2.2; rw [hr] at this; exact this
    refine ⟨M, by rw [← hr]; exact h, ?_⟩
    rw [f_X12_number_L11.eq_2, e22, if_pos (show nI 0 = 0 from rfl), if_pos (by rw [nI_leE (by omega) (by omega)]; omega)]
    rfl
  | succ d ih =>
    intro N x v r M h1 h2 hm hr h
    obtain ⟨n, rfl⟩ : ∃ n, N = n + 1 := ⟨N - 1, by omega⟩
    have e22 : M 12 47 22 = nI 0 := by have := h.2.1.2.2; rw [hr] at this; exact this
    have h' := h
    obtain ⟨⟨t1, t2, t3⟩, ⟨t4, t5, t6⟩, ⟨t7, t8⟩, t9, t10⟩ := h'
    have eh := m_here (j := 0) h (by decide)
    rw [Nat.add_zero] at eh
    have ed := in_dig (M := M) (p := r.2.1) (fun i hi => (t3 i hi).2)
    rw [f_X12_number_L11.eq_2, dgc_s, dgv_s, e22]
    simp only [lit_0, lit_1, lit_2, lit_3, lit_4, lit_5, lit_6, lit_7, lit_8, lit_9, lit_10, lit_11, lit_12, lit_13, lit_14, lit_15, lit_16, lit_20, lit_23, lit_24, lit_31, lit_32, lit_39, lit_43, lit_45, lit_47, lit_48, lit_56, lit_57, lit_59, lit_60, lit_62, lit_63, lit_89, lit_92, lit_96, lit_97, lit_99, lit_100, lit_102, lit_103, lit_104, lit_110, lit_111, lit_115, lit_117, lit_194, lit_200, lit_644, lit_736, lit_999, lit_1000, lit_9999, lit_10000, lit_1000000000]
    rw [if_pos trivial, if_neg (show ¬ nI m ≤ nI x by rw [nI_leE (by omega) (by omega)]; omega), eh, mbp_eq, ed, mbp_eq]
    by_cases q : isD tx L r.2.1 = true
    · rw [if_pos q, if_pos q, q, if_neg (by decide), mbp_eq]
      rw [isD_t] at q
      have e2 : pk tx L r.2.1 = nI (tx r.2.1) := if_pos q.1
      have h3 : Mst M0 (mup M 12 47 19 (nI (r.2.1 + 1))) tx L c (true, r.2.1 + 1, r.2.2) := h.set (by omega) (fun _ => hr) (by rw [mup_at, if_pos (by decide)]) (by rw [mup_at, if_neg (by decide)]; exact e22) (fun a b k' hab => by rw [mup_at, if_neg (by omega)])
      obtain ⟨M1, k1, k2⟩ := ih n (x + 1) (v * 10 + (tx r.2.1 - 48)) (true, r.2.1 + 1, r.2.2) _ (by omega) (by omega) hm rfl h3
      refine ⟨M1, ?_, ?_⟩
      · rw [show r.2.1 + (1 + dgc tx L d (r.2.1 + 1)) = r.2.1 + 1 + dgc tx L d (r.2.1 + 1) by omega]
        exact k1
      · have e3 : nI (10 * v + tx r.2.1) - nI 48 = nI (v * 10 + (tx r.2.1 - 48)) := by rw [nI_subE (by omega)]; congr 1; omega
        simp (disch := omega) only [lit_0, lit_1, lit_2, lit_3, lit_4, lit_5, lit_6, lit_7, lit_8, lit_9, lit_10, lit_11, lit_12, lit_13, lit_14, lit_15, lit_16, lit_20, lit_23, lit_24, lit_31, lit_32, lit_39, lit_43, lit_45, lit_47, lit_48, lit_56, lit_57, lit_59, lit_60, lit_62, lit_63, lit_89, lit_92, lit_96, lit_97, lit_99, lit_100, lit_102, lit_103, lit_104, lit_110, lit_111, lit_115, lit_117, lit_194, lit_200, lit_644, lit_736, lit_999, lit_1000, lit_9999, lit_10000, lit_1000000000, ↓wp_mlet, ↓wp_mbp, ↓wp_ite, ↓wp_mix, ↓wp_mdiv, ↓wp_mnz, ↓wp_some, ↓wp_mbnd, ↓mlet_eq, ↓mbp_eq, ↓mbnd_eq, ↓mix_ite, ↓mdiv_ite, ↓mnz_ite, nI_add, nI_mul, nI_nat, nI_ltE, nI_leE, nI_eqE, nI_eqN, nI_Neq, nI_Nlt, nI_Nle, nI_ltN, nI_leN, ↓reduceIte, ↓Nat.reduceEqDiff, and_f, nt_e, nt_t, nl_t, nl_f, ne_t, ne_f, and_self, or_self, or_true, true_or, or_false, false_or, if_true, if_false, and_true, true_and, and_false, false_and, not_true, not_false_iff, e2, t4, e3]
        rw [show x + (1 + dgc tx L d (r.2.1 + 1)) = x + 1 + dgc tx L d (r.2.1 + 1) by omega]
        exact k2
    · have q' : isD tx L r.2.1 = false := by simpa using q
      rw [if_neg q, if_neg q, q', if_pos (by decide), Nat.add_zero, Nat.add_zero]
      exact ⟨M, by rw [← hr]; exact h, rfl⟩
theorem num_at {M0 M M1 : Mem} {tx : Nat → Nat} {L c k v : Nat} {r r' : Rdr} {w : Bool} (h : Mst M0 M tx L c r) (hk : 1 ≤ k ∧ k < 6) (h22 : M1 = mup (mup M 12 47 22 (nI w.toNat)) 12 54 (6 * c + k) (nI v)) (hr1 : r'.1 = !w) (hr2 : r'.2.1 = r.2.1) (hr : r'.1 = true → r.1 = true ∧ k = r.2.2.1 + 1 ∧ r'.2.2 = (r.2.2.1 + 1, fun j => if j = r.2.2.1 then v else r.2.2.2 j)) : Mst M0 M1 tx L c r' := by
  obtain ⟨⟨h1, h2, h3⟩, ⟨h4, h5, h6⟩, ⟨h7, h8⟩, h9, h10⟩ := h
  subst h22
  refine ⟨⟨h1, ?_, fun i hi => ?_⟩, ⟨?_, ?_, ?_⟩, ⟨by rw [hr2]; exact h7, h8⟩, fun hh j hj => ?_, fun a b k' hab => ?_⟩
  · rw [mup_at, if_neg (by omega), mup_at, if_neg (by omega)]; exact h2
  · rw [mup_at, if_neg (by omega), mup_at, if_neg (by omega)]; exact h3 i hi
  · rw [mup_at, if_neg (by omega), mup_at, if_neg (by omega), hr2]; exact h4
  · rw [mup_at, if_neg (by omega), mup_at, if_neg (by omega)]; exact h5
  · rw [mup_at, if_neg (by omega), mup_at, if_pos (by decide), hr1, Bool.not_not]
  · obtain ⟨g1, g2, g3⟩ := hr hh
    rw [g3] at hj ⊢
    have hj' : j < r.2.2.1 + 1 := hj
    show _ = nI (if j = r.2.2.1 then v else r.2.2.2 j)
    rw [mup_at]
    by_cases q : j = r.2.2.1
    · rw [if_pos (by omega), if_pos q]
    · rw [if_neg (by omega), if_neg q, mup_at, if_neg (by omega)]
      exact h9 g1 j (by omega)
  · rw [mup_at, if_neg (by omega), mup_at, if_neg (by omega)]; exact h10 a b k' hab
theorem m_number {M0 M : Mem} {tx : Nat → Nat} {L c t k m : Nat} {r : Rdr} (hlen : mTl.getD t 0 = (mTx.getD t []).length) (h8 : (mTx.getD t []).length ≤ 8) (hcs : ∀ k, k ∈ mTx.getD t [] → ∃ j, j < 65536 ∧ k = nI j) (hm : 1 ≤ m ∧ m ≤ 2) (hk : 1 ≤ k ∧ k < 6) (h : Mst M0 M tx L c r) (hc : r.1 = true → k = r.2.2.1 + 1) : wp (f_X12_number t (nI k) (nI m) M) fun _ M1 => Mst M0 M1 tx L c (num tx L m (lit tx L (mTx.getD t []) r)) := by
  obtain ⟨⟨⟩, M1, e1, h1⟩ := m_says hlen h8 hcs h
  have hcnt : (lit tx L (mTx.getD t []) r).2.2 = r.2.2 := lit_cnt
  have hrr : (lit tx L (mTx.getD t []) r).1 = true → r.1 = true := fun q => by
    by_cases q2 : r.1 = true
    · exact q2
    · rw [lit_no q2] at q; exact q
  unfold f_X12_number
  generalize hN : (1000 : Nat) = N
  generalize lit tx L (mTx.getD t []) r = s at *
  rw [e1, mbnd_eq]
  have c15 := h1.2.2.1.2
  by_cases q : s.1 = true
  · have hk1 := hc (hrr q)
    obtain ⟨M2, h2, k2⟩ := m_digits (M0 := M0) (c := c) (m := m) (fun x15 x16 M17 => (mlet (fun (x21 : Int32) => (mnz x21 (mlet (mup M17 12 47 22 x21) fun M23 => (mix (((6 : Int32) * (M23 12 47 21)) + (nI k)) 360 (mlet (mup M23 12 54 (((6 : Int32) * (M23 12 47 21)) + (nI k)).toNatClampNeg x15) fun M24 => (some ((), M24))))))) fun k89_22 => (mlet (fun (_u : Unit) => (k89_22 (1 : Int32))) fun k84_20 => (if (M17 12 47 22) = 0 then (if x16 = 0 then (k84_20 ()) else (k89_22 (0 : Int32))) else (k84_20 ()))))) m N 0 0 s M1 (by omega) (by omega) hm.2 q h1
    have e0 : ∀ kk, f_X12_number_L11 (nI m) N 0 0 M1 kk = f_X12_number_L11 (nI m) N (nI 0) (nI 0) M1 kk := fun _ => rfl
    rw [e0, k2, Nat.zero_add]
    have l := dgc_L (tx := tx) (L := L) m s.2.1 h1.2.2.1.1
    have l60 := h1.1.1
    have e22 : M2 12 47 22 = nI 0 := h2.2.1.2.2
    have e21 := h2.2.1.2.1
    have x21 : ∀ w, (mup M2 12 47 22 w) 12 47 21 = nI c := fun w => by rw [mup_at, if_neg (by decide)]; exact e21
    unfold num
    rw [if_pos q]
    by_cases q2 : dgc tx L m s.2.1 = 0
    · rw [if_pos q2, q2]
      simp (disch := omega) only [lit_0, lit_1, lit_2, lit_3, lit_4, lit_5, lit_6, lit_7, lit_8, lit_9, lit_10, lit_11, lit_12, lit_13, lit_14, lit_15, lit_16, lit_20, lit_23, lit_24, lit_31, lit_32, lit_39, lit_43, lit_45, lit_47, lit_48, lit_56, lit_57, lit_59, lit_60, lit_62, lit_63, lit_89, lit_92, lit_96, lit_97, lit_99, lit_100, lit_102, lit_103, lit_104, lit_110, lit_111, lit_115, lit_117, lit_194, lit_200, lit_644, lit_736, lit_999, lit_1000, lit_9999, lit_10000, lit_1000000000, ↓wp_mlet, ↓wp_mbp, ↓wp_ite, ↓wp_mix, ↓wp_mdiv, ↓wp_mnz, ↓wp_some, ↓wp_mbnd, ↓mlet_eq, ↓mbp_eq, ↓mbnd_eq, ↓mix_ite, ↓mdiv_ite, ↓mnz_ite, nI_add, nI_mul, nI_nat, nI_ltE, nI_leE, nI_eqE, nI_eqN, nI_Neq, nI_Nlt, nI_Nle, nI_ltN, nI_leN, ↓reduceIte, ↓Nat.reduceEqDiff, and_f, nt_e, nt_t, nl_t, nl_f, ne_t, ne_f, and_self, or_self, or_true, true_or, or_false, false_or, if_true, if_false, and_true, true_and, and_false, false_and, not_true, not_false_iff, e22, x21]
      refine num_at (w := true) (k := k) h2 hk rfl rfl ?_ (fun e => (by cases e))
      show s.2.1 = s.2.1 + dgc tx L m s.2.1
      rw [q2]; rfl
    · rw [if_neg q2]
      simp (disch := omega) only [lit_0, lit_1, lit_2, lit_3, lit_4, lit_5, lit_6, lit_7, lit_8, lit_9, lit_10, lit_11, lit_12, lit_13, lit_14, lit_15, lit_16, lit_20, lit_23, lit_24, lit_31, lit_32, lit_39, lit_43, lit_45, lit_47, lit_48, lit_56, lit_57, lit_59, lit_60, lit_62, lit_63, lit_89, lit_92, lit_96, lit_97, lit_99, lit_100, lit_102, lit_103, lit_104, lit_110, lit_111, lit_115, lit_117, lit_194, lit_200, lit_644, lit_736, lit_999, lit_1000, lit_9999, lit_10000, lit_1000000000, ↓wp_mlet, ↓wp_mbp, ↓wp_ite, ↓wp_mix, ↓wp_mdiv, ↓wp_mnz, ↓wp_some, ↓wp_mbnd, ↓mlet_eq, ↓mbp_eq, ↓mbnd_eq, ↓mix_ite, ↓mdiv_ite, ↓mnz_ite, nI_add, nI_mul, nI_nat, nI_ltE, nI_leE, nI_eqE, nI_eqN, nI_Neq, nI_Nlt, nI_Nle, nI_ltN, nI_leN, ↓reduceIte, ↓Nat.reduceEqDiff, and_f, nt_e, nt_t, nl_t, nl_f, ne_t, ne_f, and_self, or_self, or_true, true_or, or_false, false_or, if_true, if_false, and_true, true_and, and_false, false_and, not_true, not_false_iff, e22, x21]
      refine num_at (w := false) (k := k) h2 hk rfl rfl rfl (fun _ => ⟨rfl, ?_, rfl⟩)
      show k = s.2.2.1 + 1
      rw [hcnt]
      exact hk1
  · have q' : s.1 = false := by simpa using q
    have e22 : M1 12 47 22 = nI 1 := by have := h1.2.1.2.2; rw [q'] at this; exact this
    have e21 := h1.2.1.2.1
    have x21 : ∀ w, (mup M1 12 47 22 w) 12 47 21 = nI c := fun w => by rw [mup_at, if_neg (by decide)]; exact e21
    obtain ⟨n, hn⟩ : ∃ n, N = n + 1 := ⟨N - 1, by omega⟩
    rw [hn, f_X12_number_L11.eq_2, num_no q]
    simp (disch := omega) only [lit_0, lit_1, lit_2, lit_3, lit_4, lit_5, lit_6, lit_7, lit_8, lit_9, lit_10, lit_11, lit_12, lit_13, lit_14, lit_15, lit_16, lit_20, lit_23, lit_24, lit_31, lit_32, lit_39, lit_43, lit_45, lit_47, lit_48, lit_56, lit_57, lit_59, lit_60, lit_62, lit_63, lit_89, lit_92, lit_96, lit_97, lit_99, lit_100, lit_102, lit_103, lit_104, lit_110, lit_111, lit_115, lit_117, lit_194, lit_200, lit_644, lit_736, lit_999, lit_1000, lit_9999, lit_10000, lit_1000000000, ↓wp_mlet, ↓wp_mbp, ↓wp_ite, ↓wp_mix, ↓wp_mdiv, ↓wp_mnz, ↓wp_some, ↓wp_mbnd, ↓mlet_eq, ↓mbp_eq, ↓mbnd_eq, ↓mix_ite, ↓mdiv_ite, ↓mnz_ite, nI_add, nI_mul, nI_nat, nI_ltE, nI_leE, nI_eqE, nI_eqN, nI_Neq, nI_Nlt, nI_Nle, nI_ltN, nI_leN, ↓reduceIte, ↓Nat.reduceEqDiff, and_f, nt_e, nt_t, nl_t, nl_f, ne_t, ne_f, and_self, or_self, or_true, true_or, or_false, false_or, if_true, if_false, and_true, true_and, and_false, false_and, not_true, not_false_iff, e22, x21]
    exact num_at (w := true) (k := k) (v := 0) h1 hk rfl q' rfl (fun e => absurd e q)
