/-! GAUSS -/
theorem nI_surj (x : Int32) : nI x.toBitVec.toNat = x := by
  apply Int32.toBitVec_inj.mp
  show BitVec.ofNat 32 x.toBitVec.toNat = _
  exact BitVec.ofNat_toNat _ _
def ma (A : Nat → Nat → Nat) (i j v : Nat) : Nat → Nat → Nat := fun a b => if a = i ∧ b = j then v else A a b
theorem ma_at {A : Nat → Nat → Nat} {i j v a b : Nat} : ma A i j v a b = if a = i ∧ b = j then v else A a b := Eq.trans rfl rfl
def rowU (A : Nat → Nat → Nat) (i lo x : Nat) (f : Nat → Nat) : Nat → Nat → Nat := fun a b => if a = i ∧ lo ≤ b ∧ b < x then f b else A a b
theorem rowU_at {A : Nat → Nat → Nat} {i lo x : Nat} {f : Nat → Nat} {a b : Nat} : rowU A i lo x f a b = if a = i ∧ lo ≤ b ∧ b < x then f b else A a b := Eq.trans rfl rfl
theorem rowU_0 {A : Nat → Nat → Nat} {i lo : Nat} {f : Nat → Nat} : rowU A i lo lo f = A := by
  funext a b
  rw [rowU_at, if_neg (by omega)]
theorem rowU_s {A : Nat → Nat → Nat} {i lo x : Nat} {f : Nat → Nat} (h : lo ≤ x) : ma (rowU A i lo x f) i x (f x) = rowU A i lo (x + 1) f := by
  funext a b
  rw [ma_at, rowU_at, rowU_at]
  by_cases q : a = i ∧ b = x
  · obtain ⟨rfl, rfl⟩ := q
    rw [if_pos ⟨rfl, rfl⟩, if_pos (by omega)]
  · rw [if_neg q]
    by_cases r : a = i ∧ lo ≤ b ∧ b < x
    · rw [if_pos r, if_pos (by omega)]
    · rw [if_neg r, if_neg (by omega)]
/-- the rows of the equations -/
def Mt (M0 M : Mem) (A : Nat → Nat → Nat) : Prop := (∀ i j, i < 3 → j < 4 → M 12 (21 + i) j = nI (A i j)) ∧ ∀ a b, ¬ (a = 12 ∧ 21 ≤ b ∧ b ≤ 24) → M a b = M0 a b
theorem Mt_0 (M : Mem) : Mt M M (fun i j => (M 12 (21 + i) j).toBitVec.toNat) := ⟨fun i j _ _ => (nI_surj _).symm, fun _ _ _ => rfl⟩
theorem Mt_up {M0 M : Mem} {A : Nat → Nat → Nat} {i j v : Nat} (h : Mt M0 M A) (hi : i < 3) : Mt M0 (mup M 12 (21 + i) j (nI v)) (ma A i j v) := by
  refine ⟨fun a b ha hb => ?_, fun a b hab => ?_⟩
  · rw [mup_at, ma_at]
    by_cases q : a = i ∧ b = j
    · rw [if_pos q, if_pos (by omega)]
    · rw [if_neg q, if_neg (by omega)]
      exact h.1 a b ha hb
  · rw [pm_ne (by omega)]
    exact h.2 a b hab
def pw (p : Nat) : Nat → Nat
  | 0 => 1
  | j + 1 => pw p j * p % 97
theorem pw_s {p j : Nat} : pw p (j + 1) = pw p j * p % 97 := Eq.trans rfl rfl
theorem pw_lt {p : Nat} : ∀ j, pw p j < 97
  | 0 => by show 1 < 97; decide
  | j + 1 => Nat.mod_lt _ (by decide)
theorem Mt_cg {M0 M : Mem} {A B : Nat → Nat → Nat} (h : Mt M0 M A) (e : ∀ i j, i < 3 → j < 4 → B i j = A i j) : Mt M0 M B := ⟨fun i j hi hj => by rw [e i j hi hj]; exact h.1 i j hi hj, h.2⟩
theorem Mt_at {M0 M : Mem} {A : Nat → Nat → Nat} (h : Mt M0 M A) {i j : Nat} (hi : i < 3) (hj : j < 4) : M 12 (21 + i) j = nI (A i j) := h.1 i j hi hj
theorem c_setEq {M0 M : Mem} {A : Nat → Nat → Nat} {i T h v : Nat} (hm : Mt M0 M A) (hi : i < 3) (hT : T ≤ 3) (hh : h < 8) : wp (f_X8_setEquation (nI i) (nI T) (nI h) (nI v) M) fun _ M1 => Mt M0 M1 (ma (rowU A i 0 T (pw (h + 1))) i T v) := by
  unfold f_X8_setEquation
  generalize hN : (1000 : Nat) = N
  obtain ⟨M2, hm2, key⟩ := mloopP (F := fun n x (M1 : Mem) kk => f_X8_setEquation_L6 (nI i) (nI T) (nI h) n (nI (pw (h + 1) x.toNatClampNeg)) x M1 kk) (c := T) (fun x M1 => Mt M0 M1 (rowU A i 0 x (pw (h + 1)))) (fun n x M1 kk hx hm1 => by
    have b := mul_lt (pw_lt (p := h + 1) x) (show h + 1 < 100 by omega)
    refine ⟨mup M1 12 (21 + i) x (nI (pw (h + 1) x)), ?_, ?_⟩
    · rw [← rowU_s (Nat.zero_le x)]
      exact Mt_up hm1 hi
    · show f_X8_setEquation_L6 (nI i) (nI T) (nI h) (n + 1) (nI (pw (h + 1) (nI x).toNatClampNeg)) (nI x) M1 _ = f_X8_setEquation_L6 (nI i) (nI T) (nI h) n (nI (pw (h + 1) (nI (x + 1)).toNatClampNeg)) (nI (x + 1)) (mup M1 12 (21 + i) x (nI (pw (h + 1) x))) _
      have e2 := nI_rem (a := pw (h + 1) x * (h + 1)) (b := 97) (by omega) (by decide)
      rw [nI_nat (show x < 2147483648 by omega), nI_nat (show x + 1 < 2147483648 by omega), f_X8_setEquation_L6.eq_2, pw_s]
      unfold f_X6_positionOf
      simp (disch := omega) only [lit_0, lit_1, lit_2, lit_3, lit_4, lit_5, lit_6, lit_7, lit_8, lit_9, lit_10, lit_11, lit_12, lit_13, lit_14, lit_15, lit_16, lit_20, lit_23, lit_24, lit_31, lit_32, lit_39, lit_43, lit_45, lit_47, lit_48, lit_56, lit_57, lit_59, lit_60, lit_62, lit_63, lit_89, lit_92, lit_96, lit_97, lit_99, lit_100, lit_102, lit_103, lit_104, lit_110, lit_111, lit_115, lit_117, lit_194, lit_200, lit_644, lit_736, lit_999, lit_1000, lit_9999, lit_10000, lit_1000000000, ↓wp_mlet, ↓wp_mbp, ↓wp_ite, ↓wp_mix, ↓wp_mdiv, ↓wp_mnz, ↓wp_some, ↓wp_mbnd, ↓mlet_eq, ↓mbp_eq, ↓mbnd_eq, ↓mix_ite, ↓mdiv_ite, ↓mnz_ite, nI_add, nI_mul, nI_nat, nI_ltE, nI_leE, nI_eqE, nI_eqN, nI_Neq, nI_Nlt, nI_Nle, nI_ltN, nI_leN, ↓reduceIte, ↓Nat.reduceEqDiff, and_f, nt_e, nt_t, nl_t, nl_f, ne_t, ne_f, and_self, or_self, or_true, true_or, or_false, false_or, if_true, if_false, and_true, true_and, and_false, false_and, not_true, not_false_iff, e2]) (fun n M1 kk _ => by
    show f_X8_setEquation_L6 (nI i) (nI T) (nI h) (n + 1) _ (nI T) M1 kk = kk M1
    rw [f_X8_setEquation_L6.eq_2]
    simp (disch := omega) only [lit_0, lit_1, lit_2, lit_3, lit_4, lit_5, lit_6, lit_7, lit_8, lit_9, lit_10, lit_11, lit_12, lit_13, lit_14, lit_15, lit_16, lit_20, lit_23, lit_24, lit_31, lit_32, lit_39, lit_43, lit_45, lit_47, lit_48, lit_56, lit_57, lit_59, lit_60, lit_62, lit_63, lit_89, lit_92, lit_96, lit_97, lit_99, lit_100, lit_102, lit_103, lit_104, lit_110, lit_111, lit_115, lit_117, lit_194, lit_200, lit_644, lit_736, lit_999, lit_1000, lit_9999, lit_10000, lit_1000000000, ↓wp_mlet, ↓wp_mbp, ↓wp_ite, ↓wp_mix, ↓wp_mdiv, ↓wp_mnz, ↓wp_some, ↓wp_mbnd, ↓mlet_eq, ↓mbp_eq, ↓mbnd_eq, ↓mix_ite, ↓mdiv_ite, ↓mnz_ite, nI_add, nI_mul, nI_nat, nI_ltE, nI_leE, nI_eqE, nI_eqN, nI_Neq, nI_Nlt, nI_Nle, nI_ltN, nI_leN, ↓reduceIte, ↓Nat.reduceEqDiff, and_f, nt_e, nt_t, nl_t, nl_f, ne_t, ne_f, and_self, or_self, or_true, true_or, or_false, false_or, if_true, if_false, and_true, true_and, and_false, false_and, not_true, not_false_iff]) T N 0 M (fun M9 => mix (nI i) 3 (mix (nI T) 4 (mlet (mup M9 12 (21 + (nI i).toNatClampNeg) (nI T).toNatClampNeg (nI v)) fun M10 => (some ((), M10))))) (by omega) (by omega) (by rw [rowU_0]; exact hm)
  have e0 : ∀ k, f_X8_setEquation_L6 (nI i) (nI T) (nI h) N 1 0 M k = f_X8_setEquation_L6 (nI i) (nI T) (nI h) N (nI (pw (h + 1) (nI 0).toNatClampNeg)) (nI 0) M k := fun _ => rfl
  rw [e0, key]
  simp (disch := omega) only [lit_0, lit_1, lit_2, lit_3, lit_4, lit_5, lit_6, lit_7, lit_8, lit_9, lit_10, lit_11, lit_12, lit_13, lit_14, lit_15, lit_16, lit_20, lit_23, lit_24, lit_31, lit_32, lit_39, lit_43, lit_45, lit_47, lit_48, lit_56, lit_57, lit_59, lit_60, lit_62, lit_63, lit_89, lit_92, lit_96, lit_97, lit_99, lit_100, lit_102, lit_103, lit_104, lit_110, lit_111, lit_115, lit_117, lit_194, lit_200, lit_644, lit_736, lit_999, lit_1000, lit_9999, lit_10000, lit_1000000000, ↓wp_mlet, ↓wp_mbp, ↓wp_ite, ↓wp_mix, ↓wp_mdiv, ↓wp_mnz, ↓wp_some, ↓wp_mbnd, ↓mlet_eq, ↓mbp_eq, ↓mbnd_eq, ↓mix_ite, ↓mdiv_ite, ↓mnz_ite, nI_add, nI_mul, nI_nat, nI_ltE, nI_leE, nI_eqE, nI_eqN, nI_Neq, nI_Nlt, nI_Nle, nI_ltN, nI_leN, ↓reduceIte, ↓Nat.reduceEqDiff, and_f, nt_e, nt_t, nl_t, nl_f, ne_t, ne_f, and_self, or_self, or_true, true_or, or_false, false_or, if_true, if_false, and_true, true_and, and_false, false_and, not_true, not_false_iff]
  exact Mt_up hm2 hi
/-! floorMod -/
theorem fm_pos : ∀ a : Fin 97, f_J9_floorMod_7cf53 (nI a.val) (nI 97) (fun _ _ _ => 0) = some (nI a.val) := by decide +kernel
theorem fm_neg : ∀ a : Fin 97, ∀ b : Fin 97, f_J9_floorMod_7cf53 (-nI (97 * a.val + b.val)) (nI 97) (fun _ _ _ => 0) = some (nI ((9409 - (97 * a.val + b.val)) % 97)) := by decide +kernel
theorem fm {M : Mem} {a d : Nat} (ha : a < 97) (hd : d ≤ 9216) : f_J9_floorMod_7cf53 (nI a - nI d) (nI 97) M = some (nI ((a + 9409 - d) % 97)) := by
  by_cases q : d ≤ a
  · rw [nI_subE q]
    have h := fm_pos ⟨a - d, by omega⟩
    have e : (a + 9409 - d) % 97 = a - d := by omega
    rw [e]
    exact h
  · have h1 : nI a - nI d = -nI (d - a) := by
      have h2 : nI (d - a) + nI a = nI d := by rw [nI_add]; congr 1; omega
      rw [← h2]
      generalize nI (d - a) = u
      generalize nI a = v
      clear h2 q hd ha
      grobner
    have h := fm_neg ⟨(d - a) / 97, by omega⟩ ⟨(d - a) % 97, Nat.mod_lt _ (by decide)⟩
    simp only [] at h
    rw [show 97 * ((d - a) / 97) + (d - a) % 97 = d - a by omega] at h
    have e : (a + 9409 - d) % 97 = (9409 - (d - a)) % 97 := by congr 1; omega
    rw [h1, e]
    exact h
/-- one row less another -/
theorem c_sub {M0 M : Mem} {A : Nat → Nat → Nat} {i c T : Nat} (hm : Mt M0 M A) (hi : i < 3) (hc : c < 3) (hic : i ≠ c) (hT : T ≤ 3) (hcT : c ≤ T) (l1 : ∀ b, c ≤ b → b ≤ T → A i b < 97) (l2 : ∀ b, c ≤ b → b ≤ T → A c b < 97) :
    wp (f_X8_subtract 12 (21 + i) 12 (21 + c) (nI c) (nI T) M) fun _ M1 => Mt M0 M1 (rowU A i c (T + 1) (fun j => (A i j + 9409 - A i c * A c j) % 97)) := by
  unfold f_X8_subtract
  generalize hN : (1000 : Nat) = N
  have e1 := Mt_at hm hi (show c < 4 by omega)
  obtain ⟨M2, hm2, key⟩ := mloopP (F := fun n x (M1 : Mem) kk => f_X8_subtract_L8 12 (21 + i) 12 (21 + c) (nI T) (nI (A i c)) n x M1 kk) (c := T + 1) (fun x M1 => c ≤ x ∧ Mt M0 M1 (rowU A i c x (fun j => (A i j + 9409 - A i c * A c j) % 97))) (fun n x M1 kk hx hm1 => by
    obtain ⟨hcx, hm1⟩ := hm1
    have m1 := Mt_at hm1 hi (show x < 4 by omega)
    have m2 := Mt_at hm1 hc (show x < 4 by omega)
    rw [rowU_at, if_neg (by omega)] at m1
    rw [rowU_at, if_neg (by omega)] at m2
    have b1 := l1 c (Nat.le_refl c) hcT
    have b2 := l2 x hcx (by omega)
    have b3 : A i c * A c x ≤ 96 * 96 := Nat.mul_le_mul (by omega) (by omega)
    have e := fm (M := M1) (a := A i x) (d := A i c * A c x) (l1 x hcx (by omega)) (by omega)
    refine ⟨mup M1 12 (21 + i) x (nI ((A i x + 9409 - A i c * A c x) % 97)), ⟨by omega, ?_⟩, ?_⟩
    · rw [← rowU_s hcx]
      exact Mt_up hm1 hi
    · show f_X8_subtract_L8 12 (21 + i) 12 (21 + c) (nI T) (nI (A i c)) (n + 1) (nI x) M1 kk = _
      rw [f_X8_subtract_L8.eq_2]
      simp (disch := omega) only [lit_0, lit_1, lit_2, lit_3, lit_4, lit_5, lit_6, lit_7, lit_8, lit_9, lit_10, lit_11, lit_12, lit_13, lit_14, lit_15, lit_16, lit_20, lit_23, lit_24, lit_31, lit_32, lit_39, lit_43, lit_45, lit_47, lit_48, lit_56, lit_57, lit_59, lit_60, lit_62, lit_63, lit_89, lit_92, lit_96, lit_97, lit_99, lit_100, lit_102, lit_103, lit_104, lit_110, lit_111, lit_115, lit_117, lit_194, lit_200, lit_644, lit_736, lit_999, lit_1000, lit_9999, lit_10000, lit_1000000000, ↓wp_mlet, ↓wp_mbp, ↓wp_ite, ↓wp_mix, ↓wp_mdiv, ↓wp_mnz, ↓wp_some, ↓wp_mbnd, ↓mlet_eq, ↓mbp_eq, ↓mbnd_eq, ↓mix_ite, ↓mdiv_ite, ↓mnz_ite, nI_add, nI_mul, nI_nat, nI_ltE, nI_leE, nI_eqE, nI_eqN, nI_Neq, nI_Nlt, nI_Nle, nI_ltN, nI_leN, ↓reduceIte, ↓Nat.reduceEqDiff, and_f, nt_e, nt_t, nl_t, nl_f, ne_t, ne_f, and_self, or_self, or_true, true_or, or_false, false_or, if_true, if_false, and_true, true_and, and_false, false_and, not_true, not_false_iff, m1, m2, e]) (fun n M1 kk _ => by
    show f_X8_subtract_L8 12 (21 + i) 12 (21 + c) (nI T) (nI (A i c)) (n + 1) (nI (T + 1)) M1 kk = _
    rw [f_X8_subtract_L8.eq_2]
    simp (disch := omega) only [lit_0, lit_1, lit_2, lit_3, lit_4, lit_5, lit_6, lit_7, lit_8, lit_9, lit_10, lit_11, lit_12, lit_13, lit_14, lit_15, lit_16, lit_20, lit_23, lit_24, lit_31, lit_32, lit_39, lit_43, lit_45, lit_47, lit_48, lit_56, lit_57, lit_59, lit_60, lit_62, lit_63, lit_89, lit_92, lit_96, lit_97, lit_99, lit_100, lit_102, lit_103, lit_104, lit_110, lit_111, lit_115, lit_117, lit_194, lit_200, lit_644, lit_736, lit_999, lit_1000, lit_9999, lit_10000, lit_1000000000, ↓wp_mlet, ↓wp_mbp, ↓wp_ite, ↓wp_mix, ↓wp_mdiv, ↓wp_mnz, ↓wp_some, ↓wp_mbnd, ↓mlet_eq, ↓mbp_eq, ↓mbnd_eq, ↓mix_ite, ↓mdiv_ite, ↓mnz_ite, nI_add, nI_mul, nI_nat, nI_ltE, nI_leE, nI_eqE, nI_eqN, nI_Neq, nI_Nlt, nI_Nle, nI_ltN, nI_leN, ↓reduceIte, ↓Nat.reduceEqDiff, and_f, nt_e, nt_t, nl_t, nl_f, ne_t, ne_f, and_self, or_self, or_true, true_or, or_false, false_or, if_true, if_false, and_true, true_and, and_false, false_and, not_true, not_false_iff]) (T + 1 - c) N c M (fun M8 => some ((), M8)) (by omega) (by omega) ⟨Nat.le_refl c, by rw [rowU_0]; exact hm⟩
  simp (disch := omega) only [lit_0, lit_1, lit_2, lit_3, lit_4, lit_5, lit_6, lit_7, lit_8, lit_9, lit_10, lit_11, lit_12, lit_13, lit_14, lit_15, lit_16, lit_20, lit_23, lit_24, lit_31, lit_32, lit_39, lit_43, lit_45, lit_47, lit_48, lit_56, lit_57, lit_59, lit_60, lit_62, lit_63, lit_89, lit_92, lit_96, lit_97, lit_99, lit_100, lit_102, lit_103, lit_104, lit_110, lit_111, lit_115, lit_117, lit_194, lit_200, lit_644, lit_736, lit_999, lit_1000, lit_9999, lit_10000, lit_1000000000, ↓wp_mlet, ↓wp_mbp, ↓wp_ite, ↓wp_mix, ↓wp_mdiv, ↓wp_mnz, ↓wp_some, ↓wp_mbnd, ↓mlet_eq, ↓mbp_eq, ↓mbnd_eq, ↓mix_ite, ↓mdiv_ite, ↓mnz_ite, nI_add, nI_mul, nI_nat, nI_ltE, nI_leE, nI_eqE, nI_eqN, nI_Neq, nI_Nlt, nI_Nle, nI_ltN, nI_leN, ↓reduceIte, ↓Nat.reduceEqDiff, and_f, nt_e, nt_t, nl_t, nl_f, ne_t, ne_f, and_self, or_self, or_true, true_or, or_false, false_or, if_true, if_false, and_true, true_and, and_false, false_and, not_true, not_false_iff, e1]
  rw [key]
  rw [wp_some]
  exact hm2.2
