/-! SETS OF PLACES -/
def pop (x : Nat) : Nat := cnt (fun k => x.testBit k) 8
def sel (x j : Nat) : Nat := if x.testBit 0 && j == 0 then 0 else if x.testBit 1 && cnt (fun k => x.testBit k) 1 == j then 1 else if x.testBit 2 && cnt (fun k => x.testBit k) 2 == j then 2 else if x.testBit 3 && cnt (fun k => x.testBit k) 3 == j then 3 else if x.testBit 4 && cnt (fun k => x.testBit k) 4 == j then 4 else if x.testBit 5 && cnt (fun k => x.testBit k) 5 == j then 5 else if x.testBit 6 && cnt (fun k => x.testBit k) 6 == j then 6 else 7
theorem sel_all : ∀ x : Fin 256, ∀ j : Fin 8, j.val < pop x.val → sel x.val j.val < 8 ∧ x.val.testBit (sel x.val j.val) = true ∧ cnt (fun k => x.val.testBit k) (sel x.val j.val) = j.val := by decide +kernel
theorem sel_lt_all : ∀ x : Fin 256, ∀ j : Fin 8, ∀ i : Fin 8, j.val < pop x.val → i.val < j.val → sel x.val i.val < sel x.val j.val := by decide +kernel
/-- the first T of a set -/
def fst3 (T y : Nat) : Nat := (List.range 8).foldl (fun m k => if y.testBit k && decide (cnt (fun k => y.testBit k) k < T) then m + 2 ^ k else m) 0
theorem fst_all : ∀ y : Fin 256, ∀ T : Fin 4, T.val ≤ pop y.val → fst3 T.val y.val ≤ y.val ∧ pop (fst3 T.val y.val) = T.val ∧ ∀ i : Fin 4, i.val < T.val → sel (fst3 T.val y.val) i.val = sel y.val i.val := by decide +kernel
/-- the set of a row of places -/
def tup (T : Nat) (u : Nat → Nat) : Nat := if T = 1 then 2 ^ u 0 else if T = 2 then 2 ^ u 0 + 2 ^ u 1 else 2 ^ u 0 + 2 ^ u 1 + 2 ^ u 2
theorem tup_1 : ∀ a : Fin 8, ∀ n : Fin 9, a.val < n.val → 2 ^ a.val < 2 ^ n.val ∧ pop (2 ^ a.val) = 1 ∧ sel (2 ^ a.val) 0 = a.val := by decide +kernel
theorem tup_2 : ∀ a b : Fin 8, ∀ n : Fin 9, a.val < b.val → b.val < n.val → 2 ^ a.val + 2 ^ b.val < 2 ^ n.val ∧ pop (2 ^ a.val + 2 ^ b.val) = 2 ∧ sel (2 ^ a.val + 2 ^ b.val) 0 = a.val ∧ sel (2 ^ a.val + 2 ^ b.val) 1 = b.val := by decide +kernel
theorem tup_3 : ∀ a b c : Fin 8, ∀ n : Fin 9, a.val < b.val → b.val < c.val → c.val < n.val → 2 ^ a.val + 2 ^ b.val + 2 ^ c.val < 2 ^ n.val ∧ pop (2 ^ a.val + 2 ^ b.val + 2 ^ c.val) = 3 ∧ sel (2 ^ a.val + 2 ^ b.val + 2 ^ c.val) 0 = a.val ∧ sel (2 ^ a.val + 2 ^ b.val + 2 ^ c.val) 1 = b.val ∧ sel (2 ^ a.val + 2 ^ b.val + 2 ^ c.val) 2 = c.val := by decide +kernel
theorem bit_all : ∀ x : Fin 256, ∀ k : Fin 8, ((nI x.val >>> (nI k.val &&& nI 31)) &&& nI 1 = nI 1) ↔ x.val.testBit k.val = true := by decide +kernel
theorem pop_all : ∀ x : Fin 256, f_J6_bitCount_0f7a4 (nI x.val) (fun _ _ _ => 0) = some (nI (pop x.val)) := by decide +kernel
theorem bit_I {x k : Nat} (hx : x < 256) (hk : k < 8) : ((nI x >>> (nI k &&& nI 31)) &&& nI 1 = nI 1) = (x.testBit k = true) := propext (bit_all ⟨x, hx⟩ ⟨k, hk⟩)
theorem pop_I {x : Nat} {M : Mem} (hx : x < 256) : f_J6_bitCount_0f7a4 (nI x) M = some (nI (pop x)) := pop_all ⟨x, hx⟩
theorem pop_le {x : Nat} : pop x ≤ 8 := cnt_le 8
theorem cnt_le_of {P : Nat → Bool} {i j : Nat} (h : i ≤ j) : cnt P i ≤ cnt P j := by
  induction j with
  | zero => obtain rfl : i = 0 := by omega
            exact Nat.le_refl _
  | succ j ih =>
    by_cases q : i = j + 1
    · rw [q]; exact Nat.le_refl _
    · have := ih (by omega)
      rw [cnt_s]
      omega
theorem cnt_lt_of {P : Nat → Bool} {i j : Nat} (h : i < j) (hp : P i = true) : cnt P i < cnt P j := by
  have h1 := cnt_le_of (P := P) (show i + 1 ≤ j from h)
  rw [cnt_s, hp] at h1
  simp at h1
  omega
theorem tb_hi {x n k : Nat} (h : x < 2 ^ n) (hk : n ≤ k) : x.testBit k = false := Nat.testBit_lt_two_pow (Nat.lt_of_lt_of_le h (Nat.pow_le_pow_right (by decide) hk))
theorem cnt_tail {P : Nat → Bool} {n m : Nat} (h : n ≤ m) (hp : ∀ k, n ≤ k → k < m → P k = false) : cnt P m = cnt P n := by
  induction m with
  | zero => obtain rfl : n = 0 := by omega
            rfl
  | succ m ih =>
    by_cases q : n = m + 1
    · rw [q]
    · rw [cnt_s, hp m (by omega) (by omega), ih (by omega) (fun k h1 h2 => hp k h1 (by omega))]
      rfl
theorem pow_le {n : Nat} (h : n ≤ 8) : 2 ^ n ≤ 256 := Nat.pow_le_pow_right (show 0 < 2 by decide) h
theorem sel_p {x n j : Nat} (hn : n ≤ 8) (hx : x < 2 ^ n) (hj : j < pop x) : sel x j < n ∧ x.testBit (sel x j) = true ∧ cnt (fun k => x.testBit k) (sel x j) = j := by
  have l := pow_le hn
  have lp := pop_le (x := x)
  obtain ⟨h1, h2, h3⟩ := sel_all ⟨x, by omega⟩ ⟨j, by omega⟩ hj
  refine ⟨?_, h2, h3⟩
  by_cases q : n ≤ sel x j
  · have := tb_hi hx q
    simp only [] at h2
    rw [this] at h2
    cases h2
  · omega
theorem sel_lt {x n i j : Nat} (hn : n ≤ 8) (hx : x < 2 ^ n) (hj : j < pop x) (hij : i < j) : sel x i < sel x j := by
  have l := pow_le hn
  have lp := pop_le (x := x)
  exact sel_lt_all ⟨x, by omega⟩ ⟨j, by omega⟩ ⟨i, by omega⟩ hj hij
/-- the vault's keys, as the class has them -/
def Kc (M : Mem) (g T n : Nat) (s ky : Nat → Nat) : Prop := (M g 1 3 = nI T ∧ (1 ≤ T ∧ T ≤ 3) ∧ T ≤ n ∧ n ≤ 8 ∧ M g 1 5 = nI n) ∧ (∀ k, k < 8 → M g 2 k = nI (s k) ∧ s k ≤ 96) ∧ (∀ k, k < n → M g 4 k = nI (ky k)) ∧ Tu n ky
theorem Kc.frame {M M1 : Mem} {g T n : Nat} {s ky : Nat → Nat} (h : Kc M g T n s ky) (hf : ∀ b, M1 g b = M g b) : Kc M1 g T n s ky := by
  obtain ⟨⟨h1, h2, h3, h4, h5⟩, h6, h7, h8⟩ := h
  exact ⟨⟨by rw [hf]; exact h1, h2, h3, h4, by rw [hf]; exact h5⟩, fun k hk => ⟨by rw [hf]; exact (h6 k hk).1, (h6 k hk).2⟩, fun k hk => by rw [hf]; exact h7 k hk, h8⟩
theorem tu_sel {T n x : Nat} {ky : Nat → Nat} (hu : Tu n ky) (hn : n ≤ 8) (hx : x < 2 ^ n) (hT : T ≤ pop x) : Tu T (fun i => ky (sel x i)) := by
  refine ⟨fun i hi => hu.1 _ (sel_p hn hx (by omega)).1, fun i j h1 h2 => ?_⟩
  exact hu.2 _ _ (sel_lt hn hx (by omega) h1) (sel_p hn hx (by omega)).1
theorem c_choose {M : Mem} {g T n x : Nat} {s ky : Nat → Nat} (h : Kc M g T n s ky) (hg : g ≠ 12) (hx : x < 2 ^ n) : wp (f_X8_choose g (nI x) M) fun _ M1 => (∀ j, j < pop x → M1 12 25 j = nI (ky (sel x j))) ∧ ∀ a b, ¬ (a = 12 ∧ b = 25) → M1 a b = M a b := by
  obtain ⟨⟨h1, h2, h3, h4, h5⟩, h6, h7, h8⟩ := h
  have l := pow_le h4
  unfold f_X8_choose
  generalize hN : (1000 : Nat) = N
  obtain ⟨M2, ⟨hm, hf⟩, key⟩ := mloopP (F := fun m k (M1 : Mem) kk => f_X8_choose_L5 g (nI x) m (nI (cnt (fun k => x.testBit k) k.toNatClampNeg)) k M1 kk) (c := n) (fun k M1 => (∀ j, j < k → x.testBit j = true → M1 12 25 (cnt (fun k => x.testBit k) j) = nI (ky j)) ∧ ∀ a b, ¬ (a = 12 ∧ b = 25) → M1 a b = M a b) (fun m k M1 kk hk hP => by
    obtain ⟨hm, hf⟩ := hP
    have e5 : M1 g 1 5 = nI n := by rw [hf g 1 (by omega)]; exact h5
    have e4 : M1 g 4 k = nI (ky k) := by rw [hf g 4 (by omega)]; exact h7 k hk
    have eb := bit_I (x := x) (k := k) (by omega) (by omega)
    have lc := cnt_le (P := fun k => x.testBit k) k
    cases q : x.testBit k with
    | true =>
      rw [q] at eb
      refine ⟨mup M1 12 25 (cnt (fun k => x.testBit k) k) (nI (ky k)), ⟨fun j hj hb => ?_, fun a b hab => ?_⟩, ?_⟩
      · rw [mup_at]
        by_cases r : j = k
        · subst r
          rw [if_pos (by omega)]
        · have := cnt_lt_of (P := fun k => x.testBit k) (show j < k by omega) hb
          rw [if_neg (by omega)]
          exact hm j (by omega) hb
      · rw [pm_ne (by omega)]
        exact hf a b hab
      · show f_X8_choose_L5 g (nI x) (m + 1) (nI (cnt (fun k => x.testBit k) (nI k).toNatClampNeg)) (nI k) M1 kk = f_X8_choose_L5 g (nI x) m (nI (cnt (fun k => x.testBit k) (nI (k + 1)).toNatClampNeg)) (nI (k + 1)) (mup M1 12 25 (cnt (fun k => x.testBit k) k) (nI (ky k))) kk
        rw [nI_nat (show k < 2147483648 by omega), nI_nat (show k + 1 < 2147483648 by omega), f_X8_choose_L5.eq_2, cnt_s, q]
        generalize cnt (fun k => x.testBit k) k = c at lc ⊢
        simp (disch := omega) only [lit_0, lit_1, lit_2, lit_3, lit_4, lit_5, lit_6, lit_7, lit_8, lit_9, lit_10, lit_11, lit_12, lit_13, lit_14, lit_15, lit_16, lit_20, lit_23, lit_24, lit_31, lit_32, lit_39, lit_43, lit_45, lit_47, lit_48, lit_56, lit_57, lit_59, lit_60, lit_62, lit_63, lit_89, lit_92, lit_96, lit_97, lit_99, lit_100, lit_102, lit_103, lit_104, lit_110, lit_111, lit_115, lit_117, lit_194, lit_200, lit_644, lit_736, lit_999, lit_1000, lit_9999, lit_10000, lit_1000000000, ↓wp_mlet, ↓wp_mbp, ↓wp_ite, ↓wp_mix, ↓wp_mdiv, ↓wp_mnz, ↓wp_some, ↓wp_mbnd, ↓mlet_eq, ↓mbp_eq, ↓mbnd_eq, ↓mix_ite, ↓mdiv_ite, ↓mnz_ite, nI_add, nI_mul, nI_nat, nI_ltE, nI_leE, nI_eqE, nI_eqN, nI_Neq, nI_Nlt, nI_Nle, nI_ltN, nI_leN, ↓reduceIte, ↓Nat.reduceEqDiff, and_f, nt_e, nt_t, nl_t, nl_f, ne_t, ne_f, and_self, or_self, or_true, true_or, or_false, false_or, if_true, if_false, and_true, true_and, and_false, false_and, not_true, not_false_iff, e5, e4, eb, Bool.toNat_true]
    | false =>
      rw [q] at eb
      refine ⟨M1, ⟨fun j hj hb => ?_, hf⟩, ?_⟩
      · by_cases r : j = k
        · subst r
          rw [q] at hb
          cases hb
        · exact hm j (by omega) hb
      · show f_X8_choose_L5 g (nI x) (m + 1) (nI (cnt (fun k => x.testBit k) (nI k).toNatClampNeg)) (nI k) M1 kk = f_X8_choose_L5 g (nI x) m (nI (cnt (fun k => x.testBit k) (nI (k + 1)).toNatClampNeg)) (nI (k + 1)) M1 kk
        rw [nI_nat (show k < 2147483648 by omega), nI_nat (show k + 1 < 2147483648 by omega), f_X8_choose_L5.eq_2, cnt_s, q]
        generalize cnt (fun k => x.testBit k) k = c at lc ⊢
        simp (disch := omega) only [lit_0, lit_1, lit_2, lit_3, lit_4, lit_5, lit_6, lit_7, lit_8, lit_9, lit_10, lit_11, lit_12, lit_13, lit_14, lit_15, lit_16, lit_20, lit_23, lit_24, lit_31, lit_32, lit_39, lit_43, lit_45, lit_47, lit_48, lit_56, lit_57, lit_59, lit_60, lit_62, lit_63, lit_89, lit_92, lit_96, lit_97, lit_99, lit_100, lit_102, lit_103, lit_104, lit_110, lit_111, lit_115, lit_117, lit_194, lit_200, lit_644, lit_736, lit_999, lit_1000, lit_9999, lit_10000, lit_1000000000, ↓wp_mlet, ↓wp_mbp, ↓wp_ite, ↓wp_mix, ↓wp_mdiv, ↓wp_mnz, ↓wp_some, ↓wp_mbnd, ↓mlet_eq, ↓mbp_eq, ↓mbnd_eq, ↓mix_ite, ↓mdiv_ite, ↓mnz_ite, nI_add, nI_mul, nI_nat, nI_ltE, nI_leE, nI_eqE, nI_eqN, nI_Neq, nI_Nlt, nI_Nle, nI_ltN, nI_leN, ↓reduceIte, ↓Nat.reduceEqDiff, and_f, nt_e, nt_t, nl_t, nl_f, ne_t, ne_f, and_self, or_self, or_true, true_or, or_false, false_or, if_true, if_false, and_true, true_and, and_false, false_and, not_true, not_false_iff, e5, e4, eb, Bool.toNat_false, Nat.add_zero, Bool.false_eq_true]) (fun m M1 kk hP => by
    show f_X8_choose_L5 g (nI x) (m + 1) _ (nI n) M1 kk = kk M1
    have e5 : M1 g 1 5 = nI n := by rw [hP.2 g 1 (by omega)]; exact h5
    rw [f_X8_choose_L5.eq_2]
    simp (disch := omega) only [lit_0, lit_1, lit_2, lit_3, lit_4, lit_5, lit_6, lit_7, lit_8, lit_9, lit_10, lit_11, lit_12, lit_13, lit_14, lit_15, lit_16, lit_20, lit_23, lit_24, lit_31, lit_32, lit_39, lit_43, lit_45, lit_47, lit_48, lit_56, lit_57, lit_59, lit_60, lit_62, lit_63, lit_89, lit_92, lit_96, lit_97, lit_99, lit_100, lit_102, lit_103, lit_104, lit_110, lit_111, lit_115, lit_117, lit_194, lit_200, lit_644, lit_736, lit_999, lit_1000, lit_9999, lit_10000, lit_1000000000, ↓wp_mlet, ↓wp_mbp, ↓wp_ite, ↓wp_mix, ↓wp_mdiv, ↓wp_mnz, ↓wp_some, ↓wp_mbnd, ↓mlet_eq, ↓mbp_eq, ↓mbnd_eq, ↓mix_ite, ↓mdiv_ite, ↓mnz_ite, nI_add, nI_mul, nI_nat, nI_ltE, nI_leE, nI_eqE, nI_eqN, nI_Neq, nI_Nlt, nI_Nle, nI_ltN, nI_leN, ↓reduceIte, ↓Nat.reduceEqDiff, and_f, nt_e, nt_t, nl_t, nl_f, ne_t, ne_f, and_self, or_self, or_true, true_or, or_false, false_or, if_true, if_false, and_true, true_and, and_false, false_and, not_true, not_false_iff, e5]) n N 0 M (fun M12 => some ((), M12)) (by omega) (by omega) ⟨fun j hj => by omega, fun _ _ _ => rfl⟩
  have e0 : ∀ k, f_X8_choose_L5 g (nI x) N 0 0 M k = f_X8_choose_L5 g (nI x) N (nI (cnt (fun k => x.testBit k) (nI 0).toNatClampNeg)) (nI 0) M k := fun _ => rfl
  rw [e0, key, wp_some]
  refine ⟨fun j hj => ?_, hf⟩
  obtain ⟨s1, s2, s3⟩ := sel_p h4 hx hj
  have := hm _ s1 s2
  rw [s3] at this
  exact this
