def idx (x : Int32) (n : Nat) : Bool := decide (¬ x < 0) && decide (x.toNatClampNeg < n)
theorem idx_I {j n : Nat} (hj : j < 2147483648) : idx (nI j) n = decide (j < n) := by
  unfold idx
  rw [nI_nat hj, decide_eq_true (nI_pos hj)]
  rfl
theorem idx_neg {x : Int32} {n : Nat} (h : x < 0) : idx x n = false := by
  unfold idx
  rw [decide_eq_false (fun q => q h)]
  rfl
theorem idx_c (x : Int32) (n : Nat) (hn : n < 2147483648) : (∃ j, j < n ∧ x = nI j ∧ idx x n = true) ∨ (idx x n = false ∧ (x < 0 ∨ ∃ j, j < 2147483648 ∧ n ≤ j ∧ x = nI j)) := by
  by_cases h : x < 0
  · exact Or.inr ⟨idx_neg h, Or.inl h⟩
  · obtain ⟨j, hj, rfl⟩ := nI_of h
    by_cases hjn : j < n
    · exact Or.inl ⟨j, hjn, rfl, by rw [idx_I hj]; exact decide_eq_true hjn⟩
    · exact Or.inr ⟨by rw [idx_I hj]; exact decide_eq_false hjn, Or.inr ⟨j, hj, by omega, rfl⟩⟩
theorem neg_of {x : Int32} (h : x < 0) {n : Nat} (hn : n < 2147483648) : (nI n ≤ x) = False ∧ (x < nI n) = True ∧ (x ≤ nI n) = True ∧ (nI n < x) = False ∧ (x = nI n) = False := by
  have h1 := Int32.lt_iff_toInt_lt.mp h
  have h2 := nI_toInt hn
  have h3 : (0 : Int32).toInt = 0 := rfl
  rw [h3] at h1
  refine ⟨eq_false ?_, eq_true ?_, eq_true ?_, eq_false ?_, eq_false fun q => ?_⟩
  · rw [Int32.le_iff_toInt_le]; omega
  · rw [Int32.lt_iff_toInt_lt]; omega
  · rw [Int32.le_iff_toInt_le]; omega
  · rw [Int32.lt_iff_toInt_lt]; omega
  · rw [q, h2] at h1; omega
/-- x is between nI a and nI b -/
theorem rng_c (x : Int32) (b : Nat) (hb : b < 2147483648) : f_X12_in x (nI 0) (nI b) = fun _ => some (nI (idx x (b + 1)).toNat) := by
  funext M
  unfold f_X12_in
  rw [lit_0, lit_1]
  by_cases h : x < 0
  · rw [idx_neg h, if_pos (by rw [← lit_0]; exact h)]; rfl
  · obtain ⟨j, hj, rfl⟩ := nI_of h
    rw [idx_I hj, if_neg (by rw [← lit_0]; exact nI_pos hj)]
    by_cases hjb : j < b + 1
    · rw [if_neg (by rw [nI_ltE hb hj]; omega), decide_eq_true hjb]; rfl
    · rw [if_pos (by rw [nI_ltE hb hj]; omega), decide_eq_false hjb]; rfl
theorem rng_c0 (x : Int32) : f_X12_in x (nI 0) (-nI 1) = fun _ => some (nI (idx x 0).toNat) := by
  funext M
  unfold f_X12_in
  rw [lit_0, lit_1]
  by_cases h : x < 0
  · rw [idx_neg h, if_pos (by rw [← lit_0]; exact h)]; rfl
  · obtain ⟨j, hj, rfl⟩ := nI_of h
    rw [idx_I hj, if_neg (by rw [← lit_0]; exact nI_pos hj), if_pos (by rw [nI_Nlt hj (by decide) (by decide)]; trivial), decide_eq_false (by omega)]; rfl
theorem rng_s (x : Int32) (n : Nat) (hn : n < 2147483648) : f_X12_in x (nI 0) (nI n - nI 1) = fun _ => some (nI (idx x n).toNat) := by
  rcases Nat.eq_zero_or_pos n with rfl | h
  · rw [show nI 0 - nI 1 = -nI 1 from rfl]; exact rng_c0 x
  · rw [nI_subE h, rng_c x (n - 1) (by omega), Nat.sub_add_cancel h]
/-- from 1 to b -/
def rng1 (x : Int32) (b : Nat) : Bool := decide (¬ x < 0) && (decide (1 ≤ x.toNatClampNeg) && decide (x.toNatClampNeg ≤ b))
theorem rng1_I {j b : Nat} (hj : j < 2147483648) : rng1 (nI j) b = (decide (1 ≤ j) && decide (j ≤ b)) := by
  unfold rng1
  rw [nI_nat hj, decide_eq_true (nI_pos hj)]
  rfl
theorem rng1_neg {x : Int32} {n : Nat} (h : x < 0) : rng1 x n = false := by
  unfold rng1
  rw [decide_eq_false (fun q => q h)]
  rfl
theorem rng1_c (x : Int32) (b : Nat) : (∃ j, 1 ≤ j ∧ j ≤ b ∧ x = nI j ∧ rng1 x b = true) ∨ (rng1 x b = false ∧ (x < 0 ∨ ∃ j, j < 2147483648 ∧ (j < 1 ∨ b < j) ∧ x = nI j)) := by
  by_cases h : x < 0
  · exact Or.inr ⟨rng1_neg h, Or.inl h⟩
  · obtain ⟨j, hj, rfl⟩ := nI_of h
    by_cases hjn : 1 ≤ j ∧ j ≤ b
    · exact Or.inl ⟨j, hjn.1, hjn.2, rfl, by rw [rng1_I hj, decide_eq_true hjn.1, decide_eq_true hjn.2]; rfl⟩
    · refine Or.inr ⟨?_, Or.inr ⟨j, hj, by omega, rfl⟩⟩
      rw [rng1_I hj]
      by_cases h1 : 1 ≤ j
      · rw [decide_eq_true h1, decide_eq_false (by omega)]; rfl
      · rw [decide_eq_false h1]; rfl
theorem rng_1 (x : Int32) (b : Nat) (hb : b < 2147483648) : f_X12_in x (nI 1) (nI b) = fun _ => some (nI (rng1 x b).toNat) := by
  funext M
  unfold f_X12_in
  rw [lit_0, lit_1]
  rcases rng1_c x b with ⟨j, h1, h2, rfl, e⟩ | ⟨e, h | ⟨j, hj, h, rfl⟩⟩
  · rw [e, if_neg (by rw [nI_ltE (by omega) (by omega)]; omega), if_neg (by rw [nI_ltE (by omega) (by omega)]; omega)]; rfl
  · rw [e, if_pos (by rw [(neg_of h (n := 1) (by decide)).2.1]; trivial)]; rfl
  · rw [e]
    rcases h with h | h
    · rw [if_pos (by rw [nI_ltE (by omega) (by omega)]; omega)]; rfl
    · rw [if_neg (by rw [nI_ltE (by omega) (by omega)]; omega), if_pos (by rw [nI_ltE (by omega) (by omega)]; omega)]; rfl
theorem toNat_0 {b : Bool} : (nI b.toNat = nI 0) = (b = false) := by cases b <;> simp [nI_eqE]
theorem c_hasHolder {M : Mem} {g n : Nat} {x : Int32} (h : M g 1 0 = nI n) (hn : n < 2147483648) : f_X6_hasHolder g x M = some (nI (idx x n).toNat) := by
  unfold f_X6_hasHolder
  rw [h, lit_0, lit_1]
  rcases idx_c x n hn with ⟨j, h1, rfl, e⟩ | ⟨e, h | ⟨j, hj, h, rfl⟩⟩
  · rw [e, if_neg (by rw [nI_ltE (by omega) (by omega)]; omega), if_neg (by rw [nI_leE (by omega) (by omega)]; omega)]; rfl
  · rw [e, if_pos (by rw [← lit_0]; exact h)]; rfl
  · rw [e, if_neg (by rw [nI_ltE (by omega) (by omega)]; omega), if_pos (by rw [nI_leE (by omega) (by omega)]; omega)]; rfl
theorem c_hasGuard {M : Mem} {g n : Nat} {x : Int32} (h : M g 6 4 = nI n) (hn : n < 2147483648) : f_X1_hasGuard g x M = some (nI (idx x n).toNat) := by
  unfold f_X1_hasGuard
  rw [h, lit_0, lit_1]
  rcases idx_c x n hn with ⟨j, h1, rfl, e⟩ | ⟨e, h | ⟨j, hj, h, rfl⟩⟩
  · rw [e, if_neg (by rw [nI_ltE (by omega) (by omega)]; omega), if_neg (by rw [nI_leE (by omega) (by omega)]; omega)]; rfl
  · rw [e, if_pos (by rw [← lit_0]; exact h)]; rfl
  · rw [e, if_neg (by rw [nI_ltE (by omega) (by omega)]; omega), if_pos (by rw [nI_leE (by omega) (by omega)]; omega)]; rfl
theorem c_isResidue {M : Mem} {x : Int32} : f_X6_isResidue x M = some (nI (idx x 97).toNat) := by
  unfold f_X6_isResidue
  rw [lit_0, lit_1, lit_97]
  rcases idx_c x 97 (by decide) with ⟨j, h1, rfl, e⟩ | ⟨e, h | ⟨j, hj, h, rfl⟩⟩
  · rw [e, if_neg (by rw [nI_ltE (by omega) (by omega)]; omega), if_neg (by rw [nI_leE (by omega) (by omega)]; omega)]; rfl
  · rw [e, if_pos (by rw [← lit_0]; exact h)]; rfl
  · rw [e, if_neg (by rw [nI_ltE (by omega) (by omega)]; omega), if_pos (by rw [nI_leE (by omega) (by omega)]; omega)]; rfl
theorem c_hasZone {M : Mem} {x : Int32} : f_X1_hasZone x M = some (nI (idx x 8).toNat) := by
  unfold f_X1_hasZone
  rw [lit_0, lit_1, lit_8]
  rcases idx_c x 8 (by decide) with ⟨j, h1, rfl, e⟩ | ⟨e, h | ⟨j, hj, h, rfl⟩⟩
  · rw [e, if_neg (by rw [nI_ltE (by omega) (by omega)]; omega), if_neg (by rw [nI_leE (by omega) (by omega)]; omega)]; rfl
  · rw [e, if_pos (by rw [← lit_0]; exact h)]; rfl
  · rw [e, if_neg (by rw [nI_ltE (by omega) (by omega)]; omega), if_pos (by rw [nI_leE (by omega) (by omega)]; omega)]; rfl
/-- what stands in the model's row -/
theorem ms_n {M : Mem} {α : Sp} (hS : M 12 48 = enc α) {j : Nat} (h : ¬ (j = 48 ∨ j = 51 ∨ j = 54)) : M 12 48 j = nI (α j) := by rw [hS]; exact enc_n h
theorem m_isHolder {M : Mem} {α : Sp} {x : Int32} (hS : M 12 48 = enc α) (h0 : α 0 < 2147483648) : f_X12_isHolder x M = some (nI (idx x (α 0)).toNat) := by
  unfold f_X12_isHolder
  simp only [lit_0, lit_1]
  rw [nI_mix (by decide) (by decide), nI_nat (by decide), ms_n hS (by decide), rng_s x _ h0]
  exact mnz_eq (by cases idx x (α 0) <;> decide)
theorem m_isGuard {M : Mem} {α : Sp} {x : Int32} (hS : M 12 48 = enc α) (h0 : α 10 < 2147483648) : f_X12_isGuard x M = some (nI (idx x (α 10)).toNat) := by
  unfold f_X12_isGuard
  simp only [lit_0, lit_1, lit_10]
  rw [nI_mix (by decide) (by decide), nI_nat (by decide), ms_n hS (by decide), rng_s x _ h0]
  exact mnz_eq (by cases idx x (α 10) <;> decide)
theorem m_isZone {M : Mem} {x : Int32} : f_X12_isZone x M = some (nI (idx x 8).toNat) := by
  unfold f_X12_isZone
  simp only [lit_0, lit_7]
  rw [rng_c x 7 (by decide)]
  exact mnz_eq (by cases idx x (7 + 1) <;> decide)
/-! keys -/
def pl (α : Sp) (h : Nat) : Option Nat := fnd (fun k => decide (α (23 + k) = h)) 0 (α 9)
def oI : Option Nat → Int32
  | some k => nI k
  | none => -nI 1
theorem c_placeOf {M : Mem} {α : Sp} {g h : Nat} (hR : Rk (M g) α) (h9 : α 9 ≤ 8) (hh : h < 2147483648) (hb : ∀ k, k < α 9 → α (23 + k) < 2147483648) : f_X6_placeOf g (nI h) M = some (oI (pl α h)) := by
  obtain ⟨-, -, -, r4, -, -, r7⟩ := hR
  unfold f_X6_placeOf
  have key := floop (F := fun n x kk => f_X6_placeOf_L2 g (nI h) M n x kk) (c := α 9) (fun k => decide (α (23 + k) = h)) (fun k => nI k) (fun n x kk hx => by
    have e1 := r7 x (by omega) hx
    have b1 := hb x hx
    rw [f_X6_placeOf_L2.eq_2]
    have hle : ¬ α 9 ≤ x := by omega
    simp (disch := omega) only [lit_0, lit_1, lit_2, lit_3, lit_4, lit_5, lit_6, lit_7, lit_8, lit_9, lit_10, lit_11, lit_12, lit_13, lit_14, lit_15, lit_16, lit_20, lit_23, lit_24, lit_31, lit_32, lit_39, lit_43, lit_45, lit_47, lit_48, lit_56, lit_57, lit_59, lit_60, lit_62, lit_63, lit_89, lit_92, lit_96, lit_97, lit_99, lit_100, lit_102, lit_103, lit_104, lit_110, lit_111, lit_115, lit_117, lit_194, lit_200, lit_644, lit_736, lit_999, lit_1000, lit_9999, lit_10000, lit_1000000000, ↓wp_mlet, ↓wp_mbp, ↓wp_ite, ↓wp_mix, ↓wp_mdiv, ↓wp_mnz, ↓wp_some, ↓wp_mbnd, ↓mlet_eq, ↓mbp_eq, ↓mbnd_eq, ↓mix_ite, ↓mdiv_ite, ↓mnz_ite, nI_add, nI_mul, nI_nat, nI_ltE, nI_leE, nI_eqE, nI_eqN, nI_Neq, nI_Nlt, nI_Nle, nI_ltN, nI_leN, ↓reduceIte, ↓Nat.reduceEqDiff, and_f, nt_e, nt_t, nl_t, nl_f, ne_t, ne_f, and_self, or_self, or_true, true_or, or_false, false_or, if_true, if_false, and_true, true_and, and_false, false_and, not_true, not_false_iff, r4, e1, hle, decide_eq_true_eq]) (fun n kk => by
    rw [f_X6_placeOf_L2.eq_2]
    simp only [r4]
    rw [if_pos (by rw [nI_leE (by omega) (by omega)]; omega)])
  have := key (α 9) 1000 0 (fun _ => some (-nI 1)) (by omega) (by omega)
  rw [lit_0, lit_1, this]
  unfold pl oI
  cases fnd (fun k => decide (α (23 + k) = h)) 0 (α 9) <;> rfl
theorem m_placeOf {M : Mem} {α : Sp} {h : Nat} (hS : M 12 48 = enc α) (h9 : α 9 ≤ 8) (hh : h < 2147483648) (hb : ∀ k, k < α 9 → α (23 + k) < 2147483648) : f_X12_placeOf (nI h) M = some (oI (pl α h)) := by
  unfold f_X12_placeOf
  have key := floop (F := fun n x kk => f_X12_placeOf_L2 (nI h) M n x kk) (c := α 9) (fun k => decide (α (23 + k) = h)) (fun k => nI k) (fun n x kk hx => by
    have b1 := hb x hx
    rw [f_X12_placeOf_L2.eq_2]
    have hle : ¬ α 9 ≤ x := by omega
    simp (disch := omega) only [lit_0, lit_1, lit_2, lit_3, lit_4, lit_5, lit_6, lit_7, lit_8, lit_9, lit_10, lit_11, lit_12, lit_13, lit_14, lit_15, lit_16, lit_20, lit_23, lit_24, lit_31, lit_32, lit_39, lit_43, lit_45, lit_47, lit_48, lit_56, lit_57, lit_59, lit_60, lit_62, lit_63, lit_89, lit_92, lit_96, lit_97, lit_99, lit_100, lit_102, lit_103, lit_104, lit_110, lit_111, lit_115, lit_117, lit_194, lit_200, lit_644, lit_736, lit_999, lit_1000, lit_9999, lit_10000, lit_1000000000, ↓wp_mlet, ↓wp_mbp, ↓wp_ite, ↓wp_mix, ↓wp_mdiv, ↓wp_mnz, ↓wp_some, ↓wp_mbnd, ↓mlet_eq, ↓mbp_eq, ↓mbnd_eq, ↓mix_ite, ↓mdiv_ite, ↓mnz_ite, nI_add, nI_mul, nI_nat, nI_ltE, nI_leE, nI_eqE, nI_eqN, nI_Neq, nI_Nlt, nI_Nle, nI_ltN, nI_leN, ↓reduceIte, ↓Nat.reduceEqDiff, and_f, nt_e, nt_t, nl_t, nl_f, ne_t, ne_f, and_self, or_self, or_true, true_or, or_false, false_or, if_true, if_false, and_true, true_and, and_false, false_and, not_true, not_false_iff, ms_n hS, hle, decide_eq_true_eq]) (fun n kk => by
    rw [f_X12_placeOf_L2.eq_2]
    simp (disch := omega) only [lit_0, lit_1, lit_2, lit_3, lit_4, lit_5, lit_6, lit_7, lit_8, lit_9, lit_10, lit_11, lit_12, lit_13, lit_14, lit_15, lit_16, lit_20, lit_23, lit_24, lit_31, lit_32, lit_39, lit_43, lit_45, lit_47, lit_48, lit_56, lit_57, lit_59, lit_60, lit_62, lit_63, lit_89, lit_92, lit_96, lit_97, lit_99, lit_100, lit_102, lit_103, lit_104, lit_110, lit_111, lit_115, lit_117, lit_194, lit_200, lit_644, lit_736, lit_999, lit_1000, lit_9999, lit_10000, lit_1000000000, ↓wp_mlet, ↓wp_mbp, ↓wp_ite, ↓wp_mix, ↓wp_mdiv, ↓wp_mnz, ↓wp_some, ↓wp_mbnd, ↓mlet_eq, ↓mbp_eq, ↓mbnd_eq, ↓mix_ite, ↓mdiv_ite, ↓mnz_ite, nI_add, nI_mul, nI_nat, nI_ltE, nI_leE, nI_eqE, nI_eqN, nI_Neq, nI_Nlt, nI_Nle, nI_ltN, nI_leN, ↓reduceIte, ↓Nat.reduceEqDiff, and_f, nt_e, nt_t, nl_t, nl_f, ne_t, ne_f, and_self, or_self, or_true, true_or, or_false, false_or, if_true, if_false, and_true, true_and, and_false, false_and, not_true, not_false_iff, ms_n hS, Nat.le_refl])
  have := key (α 9) 1000 0 (fun _ => some (-nI 1)) (by omega) (by omega)
  rw [lit_0, lit_1, this]
  unfold pl oI
  cases fnd (fun k => decide (α (23 + k) = h)) 0 (α 9) <;> rfl
/-! rows that a loop fills -/
def fil (M : Mem) (g i lo x : Nat) (f : Nat → Int32) : Mem := fun a b c => if a = g ∧ b = i ∧ lo ≤ c ∧ c < x then f c else M a b c
theorem fil_at (M : Mem) (g i lo x : Nat) (f : Nat → Int32) (a b c : Nat) : fil M g i lo x f a b c = if a = g ∧ b = i ∧ lo ≤ c ∧ c < x then f c else M a b c := Eq.trans rfl rfl
theorem fil_0 {M : Mem} {g i lo : Nat} {f : Nat → Int32} : fil M g i lo lo f = M := by
  funext a b c
  rw [fil_at, if_neg (by omega)]
theorem fil_s {M : Mem} {g i lo x : Nat} {f : Nat → Int32} {v : Int32} (hx : lo ≤ x) (hv : v = f x) : mup (fil M g i lo x f) g i x v = fil M g i lo (x + 1) f := by
  funext a b c
  rw [mup_at, fil_at, fil_at]
  by_cases h : a = g ∧ b = i ∧ c = x
  · rw [if_pos h, if_pos ⟨h.1, h.2.1, by omega, by omega⟩, hv, h.2.2]
  · rw [if_neg h]
    by_cases h2 : a = g ∧ b = i ∧ lo ≤ c ∧ c < x
    · rw [if_pos h2, if_pos ⟨h2.1, h2.2.1, h2.2.2.1, by omega⟩]
    · rw [if_neg h2, if_neg (fun q => h2 ⟨q.1, q.2.1, q.2.2.1, Nat.lt_of_le_of_ne (by omega) (fun z => h ⟨q.1, q.2.1, z⟩)⟩)]
theorem fil_ne {M : Mem} {g i lo x a b : Nat} {f : Nat → Int32} (h : ¬ (a = g ∧ b = i)) : fil M g i lo x f a b = M a b := by
  funext c
  rw [fil_at, if_neg (fun q => h ⟨q.1, q.2.1⟩)]
theorem fil_g {M : Mem} {g i lo x a : Nat} {f : Nat → Int32} (h : ¬ a = g) : fil M g i lo x f a = M a := by
  funext b
  exact fil_ne (fun q => h q.1)
theorem mloopL {σ β : Type} {F : Nat → Int32 → σ → (σ → Option β) → Option β} {c : Nat} (lo : Nat) (s : Nat → σ) (hs : ∀ (n x : Nat) (kk : σ → Option β), lo ≤ x → x < c → F (n + 1) (nI x) (s x) kk = F n (nI (x + 1)) (s (x + 1)) kk) (he : ∀ (n : Nat) (kk : σ → Option β), F (n + 1) (nI c) (s c) kk = kk (s c)) :
    ∀ (d n x : Nat) (kk : σ → Option β), lo ≤ x → x + d = c → d < n → F n (nI x) (s x) kk = kk (s c) := by
  intro d
  induction d with
  | zero =>
    intro n x kk h0 h1 h2
    obtain rfl : x = c := by omega
    obtain ⟨m, rfl⟩ : ∃ m, n = m + 1 := ⟨n - 1, by omega⟩
    exact he m kk
  | succ d ih =>
    intro n x kk h0 h1 h2
    obtain ⟨m, rfl⟩ : ∃ m, n = m + 1 := ⟨n - 1, by omega⟩
    rw [hs m x kk h0 (by omega)]
    exact ih m (x + 1) kk (by omega) (by omega) (by omega)
