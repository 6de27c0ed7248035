/-! GAUSS -/
theorem nI_surj (x : Int32) : nI x.toBitVec.toNat = x := by
  apply Int32.toBitVec_inj.mp
  show BitVec.ofNat 32 x.toBitVec.toNat = _
  exact BitVec.ofNat_toNat _ _
def ma (A : Nat → Nat → Nat) (i j v : Nat) : Nat → Nat → Nat := fun a b => if a = i ∧ b = j then v else A a b
theorem ma_at {A : Nat → Nat → Nat} {i j v a b : Nat} : ma A i j v a b = if a = i ∧ b = j then v else A a b := Eq.trans rfl rfl
def rowU (A : Nat → Nat → Nat) (i lo x : Nat) (f : Nat → Nat) : Nat → Nat → Nat := fun a b => if a = i ∧ lo ≤ b ∧ b < x then f b else A a b
theorem rowU_at {A : Nat → Nat → Nat} {i lo x : Nat} {f : Nat → Nat} {a b : Nat} : rowU A i lo x f a b = if a = i ∧ lo ≤ b ∧ b < x then f b else A a b := Eq.trans rfl rfl
theorem rowU_0 {A : Nat → Nat → Nat} {i lo : Nat} {f : Nat → Nat} : rowU A i lo lo f = A := by
  funext a b
  rw [rowU_at, if_neg (by omega)]
theorem rowU_s {A : Nat → Nat → Nat} {i lo x : Nat} {f : Nat → Nat} (h : lo ≤ x) : ma (rowU A i lo x f) i x (f x) = rowU A i lo (x + 1) f := by
  funext a b
  rw [ma_at, rowU_at, rowU_at]
  by_cases q : a = i ∧ b = x
  · obtain ⟨rfl, rfl⟩ := q
    rw [if_pos ⟨rfl, rfl⟩, if_pos (by omega)]
  · rw [if_neg q]
    by_cases r : a = i ∧ lo ≤ b ∧ b < x
    · rw [if_pos r, if_pos (by omega)]
    · rw [if_neg r, if_neg (by omega)]
/-- the rows of the equations -/
def Mt (M0 M : Mem) (A : Nat → Nat → Nat) : Prop := (∀ i j, i < 3 → j < 4 → M 12 (21 + i) j = nI (A i j)) ∧ ∀ a b, ¬ (a = 12 ∧ 21 ≤ b ∧ b ≤ 24) → M a b = M0 a b
theorem Mt_0 (M : Mem) : Mt M M (fun i j => (M 12 (21 + i) j).toBitVec.toNat) := ⟨fun i j _ _ => (nI_surj _).symm, fun _ _ _ => rfl⟩
theorem Mt_up {M0 M : Mem} {A : Nat → Nat → Nat} {i j v : Nat} (h : Mt M0 M A) (hi : i < 3) : Mt M0 (mup M 12 (21 + i) j (nI v)) (ma A i j v) := by
  refine ⟨fun a b ha hb => ?_, fun a b hab => ?_⟩
  · rw [mup_at, ma_at]
    by_cases q : a = i ∧ b = j
    · rw [if_pos q, if_pos (by omega)]
    · rw [if_neg q, if_neg (by omega)]
      exact h.1 a b ha hb
  · rw [pm_ne (by omega)]
    exact h.2 a b hab
def pw (p : Nat) : Nat → Nat
  | 0 => 1
  | j + 1 => pw p j * p % 97
theorem pw_s {p j : Nat} : pw p (j + 1) = pw p j * p % 97 := Eq.trans rfl rfl
theorem pw_lt {p : Nat} : ∀ j, pw p j < 97
  | 0 => by show 1 < 97; decide
  | j + 1 => Nat.mod_lt _ (by decide)
theorem Mt_cg {M0 M : Mem} {A B : Nat → Nat → Nat} (h : Mt M0 M A) (e : ∀ i j, i < 3 → j < 4 → B i j = A i j) : Mt M0 M B := ⟨fun i j hi hj => by rw [e i j hi hj]; exact h.1 i j hi hj, h.2⟩
theorem Mt_at {M0 M : Mem} {A : Nat → Nat → Nat} (h : Mt M0 M A) {i j : Nat} (hi : i < 3) (hj : j < 4) : M 12 (21 + i) j = nI (A i j) := h.1 i j hi hj
theorem c_setEq {M0 M : Mem} {A : Nat → Nat → Nat} {i T h v : Nat} (hm : Mt M0 M A) (hi : i < 3) (hT : T ≤ 3) (hh : h < 8) : wp (f_X8_setEquation (nI i) (nI T) (nI h) (nI v) M) fun _ M1 => Mt M0 M1 (ma (rowU A i 0 T (pw (h + 1))) i T v) := by
  unfold f_X8_setEquation
  generalize hN : (1000 : Nat) = N
  obtain ⟨M2, hm2, key⟩ := mloopP (F := fun n x (M1 : Mem) kk => f_X8_setEquation_L6 (nI i) (nI T) (nI h) n (nI (pw (h + 1) x.toNatClampNeg)) x M1 kk) (c := T) (fun x M1 => Mt M0 M1 (rowU A i 0 x (pw (h + 1)))) (fun n x M1 kk hx hm1 => by
    have b := mul_lt (pw_lt (p := h + 1) x) (show h + 1 < 100 by omega)
    refine ⟨mup M1 12 (21 + i) x (nI (pw (h + 1) x)), ?_, ?_⟩
    · rw [← rowU_s (Nat.zero_le x)]
      exact Mt_up hm1 hi
    · show f_X8_setEquation_L6 (nI i) (nI T) (nI h) (n + 1) (nI (pw (h + 1) (nI x).toNatClampNeg)) (nI x) M1 _ = f_X8_setEquation_L6 (nI i) (nI T) (nI h) n (nI (pw (h + 1) (nI (x + 1)).toNatClampNeg)) (nI (x + 1)) (mup M1 12 (21 + i) x (nI (pw (h + 1) x))) _
      have e2 := nI_rem (a := pw (h + 1) x * (h + 1)) (b := 97) (by omega) (by decide)
      rw [nI_nat (show x < 2147483648 by omega), nI_nat (show x + 1 < 2147483648 by omega), f_X8_setEquation_L6.eq_2, pw_s]
      unfold f_X6_positionOf
      simp (disch := omega) only [lit_0, lit_1, lit_2, lit_3, lit_4, lit_5, lit_6, lit_7, lit_8, lit_9, lit_10, lit_11, lit_12, lit_13, lit_14, lit_15, lit_16, lit_20, lit_23, lit_24, lit_31, lit_32, lit_39, lit_43, lit_45, lit_47, lit_48, lit_56, lit_57, lit_59, lit_60, lit_62, lit_63, lit_89, lit_92, lit_96, lit_97, lit_99, lit_100, lit_102, lit_103, lit_104, lit_110, lit_111, lit_115, lit_117, lit_194, lit_200, lit_644, lit_736, lit_999, lit_1000, lit_9999, lit_10000, lit_1000000000, ↓wp_mlet, ↓wp_mbp, ↓wp_ite, ↓wp_mix, ↓wp_mdiv, ↓wp_mnz, ↓wp_some, ↓wp_mbnd, ↓mlet_eq, ↓mbp_eq, ↓mbnd_eq, ↓mix_ite, ↓mdiv_ite, ↓mnz_ite, nI_add, nI_mul, nI_nat, nI_ltE, nI_leE, nI_eqE, nI_eqN, nI_Neq, nI_Nlt, nI_Nle, nI_ltN, nI_leN, ↓reduceIte, ↓Nat.reduceEqDiff, and_f, nt_e, nt_t, nl_t, nl_f, ne_t, ne_f, and_self, or_self, or_true, true_or, or_false, false_or, if_true, if_false, and_true, true_and, and_false, false_and, not_true, not_false_iff, e2]) (fun n M1 kk _ => by
    show f_X8_setEquation_L6 (nI i) (nI T) (nI h) (n + 1) _ (nI T) M1 kk = kk M1
    rw [f_X8_setEquation_L6.eq_2]
    simp (disch := omega) only [lit_0, lit_1, lit_2, lit_3, lit_4, lit_5, lit_6, lit_7, lit_8, lit_9, lit_10, lit_11, lit_12, lit_13, lit_14, lit_15, lit_16, lit_20, lit_23, lit_24, lit_31, lit_32, lit_39, lit_43, lit_45, lit_47, lit_48, lit_56, lit_57, lit_59, lit_60, lit_62, lit_63, lit_89, lit_92, lit_96, lit_97, lit_99, lit_100, lit_102, lit_103, lit_104, lit_110, lit_111, lit_115, lit_117, lit_194, lit_200, lit_644, lit_736, lit_999, lit_1000, lit_9999, lit_10000, lit_1000000000, ↓wp_mlet, ↓wp_mbp, ↓wp_ite, ↓wp_mix, ↓wp_mdiv, ↓wp_mnz, ↓wp_some, ↓wp_mbnd, ↓mlet_eq, ↓mbp_eq, ↓mbnd_eq, ↓mix_ite, ↓mdiv_ite, ↓mnz_ite, nI_add, nI_mul, nI_nat, nI_ltE, nI_leE, nI_eqE, nI_eqN, nI_Neq, nI_Nlt, nI_Nle, nI_ltN, nI_leN, ↓reduceIte, ↓Nat.reduceEqDiff, and_f, nt_e, nt_t, nl_t, nl_f, ne_t, ne_f, and_self, or_self, or_true, true_or, or_false, false_or, if_true, if_false, and_true, true_and, and_false, false_and, not_true, not_false_iff]) T N 0 M (fun M9 => mix (nI i) 3 (mix (nI T) 4 (mlet (mup M9 12 (21 + (nI i).toNatClampNeg) (nI T).toNatClampNeg (nI v)) fun M10 => (some ((), M10))))) (by omega) (by omega) (by rw [rowU_0]; exact hm)
  have e0 : ∀ k, f_X8_setEquation_L6 (nI i) (nI T) (nI h) N 1 0 M k = f_X8_setEquation_L6 (nI i) (nI T) (nI h) N (nI (pw (h + 1) (nI 0).toNatClampNeg)) (nI 0) M k := fun _ => rfl
  rw [e0, key]
  simp (disch := omega) only [lit_0, lit_1, lit_2, lit_3, lit_4, lit_5, lit_6, lit_7, lit_8, lit_9, lit_10, lit_11, lit_12, lit_13, lit_14, lit_15, lit_16, lit_20, lit_23, lit_24, lit_31, lit_32, lit_39, lit_43, lit_45, lit_47, lit_48, lit_56, lit_57, lit_59, lit_60, lit_62, lit_63, lit_89, lit_92, lit_96, lit_97, lit_99, lit_100, lit_102, lit_103, lit_104, lit_110, lit_111, lit_115, lit_117, lit_194, lit_200, lit_644, lit_736, lit_999, lit_1000, lit_9999, lit_10000, lit_1000000000, ↓wp_mlet, ↓wp_mbp, ↓wp_ite, ↓wp_mix, ↓wp_mdiv, ↓wp_mnz, ↓wp_some, ↓wp_mbnd, ↓mlet_eq, ↓mbp_eq, ↓mbnd_eq, ↓mix_ite, ↓mdiv_ite, ↓mnz_ite, nI_add, nI_mul, nI_nat, nI_ltE, nI_leE, nI_eqE, nI_eqN, nI_Neq, nI_Nlt, nI_Nle, nI_ltN, nI_leN, ↓reduceIte, ↓Nat.reduceEqDiff, and_f, nt_e, nt_t, nl_t, nl_f, ne_t, ne_f, and_self, or_self, or_true, true_or, or_false, false_or, if_true, if_false, and_true, true_and, and_false, false_and, not_true, not_false_iff]
  exact Mt_up hm2 hi
/-! floorMod -/
theorem fm_pos : ∀ a : Fin 97, f_J9_floorMod_7cf53 (nI a.val) (nI 97) (fun _ _ _ => 0) = some (nI a.val) := by decide +kernel
theorem fm_neg : ∀ a : Fin 97, ∀ b : Fin 97, f_J9_floorMod_7cf53 (-nI (97 * a.val + b.val)) (nI 97) (fun _ _ _ => 0) = some (nI ((9409 - (97 * a.val + b.val)) % 97)) := by decide +kernel
theorem fm {M : Mem} {a d : Nat} (ha : a < 97) (hd : d ≤ 9216) : f_J9_floorMod_7cf53 (nI a - nI d) (nI 97) M = some (nI ((a + 9409 - d) % 97)) := by
  by_cases q : d ≤ a
  · rw [nI_subE q]
    have h := fm_pos ⟨a - d, by omega⟩
    have e : (a + 9409 - d) % 97 = a - d := by omega
    rw [e]
    exact h
  · have h1 : nI a - nI d = -nI (d - a) := by
      have h2 : nI (d - a) + nI a = nI d := by rw [nI_add]; congr 1; omega
      rw [← h2]
      generalize nI (d - a) = u
      generalize nI a = v
      clear h2 q hd ha
      grobner
    have h := fm_neg ⟨(d - a) / 97, by omega⟩ ⟨(d - a) % 97, Nat.mod_lt _ (by decide)⟩
    simp only [] at h
    rw [show 97 * ((d - a) / 97) + (d - a) % 97 = d - a by omega] at h
    have e : (a + 9409 - d) % 97 = (9409 - (d - a)) % 97 := by congr 1; omega
    rw [h1, e]
    exact h
/-- one row less another -/
theorem c_sub {M0 M : Mem} {A : Nat → Nat → Nat} {i c T : Nat} (hm : Mt M0 M A) (hi : i < 3) (hc : c < 3) (hic : i ≠ c) (hT : T ≤ 3) (hcT : c ≤ T) (l1 : ∀ b, c ≤ b → b ≤ T → A i b < 97) (l2 : ∀ b, c ≤ b → b ≤ T → A c b < 97) :
    wp (f_X8_subtract 12 (21 + i) 12 (21 + c) (nI c) (nI T) M) fun _ M1 => Mt M0 M1 (rowU A i c (T + 1) (fun j => (A i j + 9409 - A i c * A c j) % 97)) := by
  unfold f_X8_subtract
  generalize hN : (1000 : Nat) = N
  have e1 := Mt_at hm hi (show c < 4 by omega)
  obtain ⟨M2, hm2, key⟩ := mloopP (F := fun n x (M1 : Mem) kk => f_X8_subtract_L8 12 (21 + i) 12 (21 + c) (nI T) (nI (A i c)) n x M1 kk) (c := T + 1) (fun x M1 => c ≤ x ∧ Mt M0 M1 (rowU A i c x (fun j => (A i j + 9409 - A i c * A c j) % 97))) (fun n x M1 kk hx hm1 => by
    obtain ⟨hcx, hm1⟩ := hm1
    have m1 := Mt_at hm1 hi (show x < 4 by omega)
    have m2 := Mt_at hm1 hc (show x < 4 by omega)
    rw [rowU_at, if_neg (by omega)] at m1
    rw [rowU_at, if_neg (by omega)] at m2
    have b1 := l1 c (Nat.le_refl c) hcT
    have b2 := l2 x hcx (by omega)
    have b3 : A i c * A c x ≤ 96 * 96 := Nat.mul_le_mul (by omega) (by omega)
    have e := fm (M := M1) (a := A i x) (d := A i c * A c x) (l1 x hcx (by omega)) (by omega)
    refine ⟨mup M1 12 (21 + i) x (nI ((A i x + 9409 - A i c * A c x) % 97)), ⟨by omega, ?_⟩, ?_⟩
    · rw [← rowU_s hcx]
      exact Mt_up hm1 hi
    · show f_X8_subtract_L8 12 (21 + i) 12 (21 + c) (nI T) (nI (A i c)) (n + 1) (nI x) M1 kk = _
      rw [f_X8_subtract_L8.eq_2]
      simp (disch := omega) only [lit_0, lit_1, lit_2, lit_3, lit_4, lit_5, lit_6, lit_7, lit_8, lit_9, lit_10, lit_11, lit_12, lit_13, lit_14, lit_15, lit_16, lit_20, lit_23, lit_24, lit_31, lit_32, lit_39, lit_43, lit_45, lit_47, lit_48, lit_56, lit_57, lit_59, lit_60, lit_62, lit_63, lit_89, lit_92, lit_96, lit_97, lit_99, lit_100, lit_102, lit_103, lit_104, lit_110, lit_111, lit_115, lit_117, lit_194, lit_200, lit_644, lit_736, lit_999, lit_1000, lit_9999, lit_10000, lit_1000000000, ↓wp_mlet, ↓wp_mbp, ↓wp_ite, ↓wp_mix, ↓wp_mdiv, ↓wp_mnz, ↓wp_some, ↓wp_mbnd, ↓mlet_eq, ↓mbp_eq, ↓mbnd_eq, ↓mix_ite, ↓mdiv_ite, ↓mnz_ite, nI_add, nI_mul, nI_nat, nI_ltE, nI_leE, nI_eqE, nI_eqN, nI_Neq, nI_Nlt, nI_Nle, nI_ltN, nI_leN, ↓reduceIte, ↓Nat.reduceEqDiff, and_f, nt_e, nt_t, nl_t, nl_f, ne_t, ne_f, and_self, or_self, or_true, true_or, or_false, false_or, if_true, if_false, and_true, true_and, and_false, false_and, not_true, not_false_iff, m1, m2, e]) (fun n M1 kk _ => by
    show f_X8_subtract_L8 12 (21 + i) 12 (21 + c) (nI T) (nI (A i c)) (n + 1) (nI (T + 1)) M1 kk = _
    rw [f_X8_subtract_L8.eq_2]
    simp (disch := omega) only [lit_0, lit_1, lit_2, lit_3, lit_4, lit_5, lit_6, lit_7, lit_8, lit_9, lit_10, lit_11, lit_12, lit_13, lit_14, lit_15, lit_16, lit_20, lit_23, lit_24, lit_31, lit_32, lit_39, lit_43, lit_45, lit_47, lit_48, lit_56, lit_57, lit_59, lit_60, lit_62, lit_63, lit_89, lit_92, lit_96, lit_97, lit_99, lit_100, lit_102, lit_103, lit_104, lit_110, lit_111, lit_115, lit_117, lit_194, lit_200, lit_644, lit_736, lit_999, lit_1000, lit_9999, lit_10000, lit_1000000000, ↓wp_mlet, ↓wp_mbp, ↓wp_ite, ↓wp_mix, ↓wp_mdiv, ↓wp_mnz, ↓wp_some, ↓wp_mbnd, ↓mlet_eq, ↓mbp_eq, ↓mbnd_eq, ↓mix_ite, ↓mdiv_ite, ↓mnz_ite, nI_add, nI_mul, nI_nat, nI_ltE, nI_leE, nI_eqE, nI_eqN, nI_Neq, nI_Nlt, nI_Nle, nI_ltN, nI_leN, ↓reduceIte, ↓Nat.reduceEqDiff, and_f, nt_e, nt_t, nl_t, nl_f, ne_t, ne_f, and_self, or_self, or_true, true_or, or_false, false_or, if_true, if_false, and_true, true_and, and_false, false_and, not_true, not_false_iff]) (T + 1 - c) N c M (fun M8 => some ((), M8)) (by omega) (by omega) ⟨Nat.le_refl c, by rw [rowU_0]; exact hm⟩
  simp (disch := omega) only [lit_0, lit_1, lit_2, lit_3, lit_4, lit_5, lit_6, lit_7, lit_8, lit_9, lit_10, lit_11, lit_12, lit_13, lit_14, lit_15, lit_16, lit_20, lit_23, lit_24, lit_31, lit_32, lit_39, lit_43, lit_45, lit_47, lit_48, lit_56, lit_57, lit_59, lit_60, lit_62, lit_63, lit_89, lit_92, lit_96, lit_97, lit_99, lit_100, lit_102, lit_103, lit_104, lit_110, lit_111, lit_115, lit_117, lit_194, lit_200, lit_644, lit_736, lit_999, lit_1000, lit_9999, lit_10000, lit_1000000000, ↓wp_mlet, ↓wp_mbp, ↓wp_ite, ↓wp_mix, ↓wp_mdiv, ↓wp_mnz, ↓wp_some, ↓wp_mbnd, ↓mlet_eq, ↓mbp_eq, ↓mbnd_eq, ↓mix_ite, ↓mdiv_ite, ↓mnz_ite, nI_add, nI_mul, nI_nat, nI_ltE, nI_leE, nI_eqE, nI_eqN, nI_Neq, nI_Nlt, nI_Nle, nI_ltN, nI_leN, ↓reduceIte, ↓Nat.reduceEqDiff, and_f, nt_e, nt_t, nl_t, nl_f, ne_t, ne_f, and_self, or_self, or_true, true_or, or_false, false_or, if_true, if_false, and_true, true_and, and_false, false_and, not_true, not_false_iff, e1]
  rw [key]
  rw [wp_some]
  exact hm2.2
def elA (A : Nat → Nat → Nat) (c T : Nat) : Nat → Nat → Nat := rowU A c c (T + 1) (fun j => A c j * ivN (A c c) % 97)
theorem elA_at {A : Nat → Nat → Nat} {c T a b : Nat} : elA A c T a b = if a = c ∧ c ≤ b ∧ b < T + 1 then A c b * ivN (A c c) % 97 else A a b := Eq.trans rfl rfl
def elR (B : Nat → Nat → Nat) (c T x : Nat) : Nat → Nat → Nat := fun a b => if a < x ∧ a ≠ c ∧ c ≤ b ∧ b ≤ T then (B a b + 9409 - B a c * B c b) % 97 else B a b
theorem elR_at {B : Nat → Nat → Nat} {c T x a b : Nat} : elR B c T x a b = if a < x ∧ a ≠ c ∧ c ≤ b ∧ b ≤ T then (B a b + 9409 - B a c * B c b) % 97 else B a b := Eq.trans rfl rfl
def el (T c : Nat) (A : Nat → Nat → Nat) : Nat → Nat → Nat := elR (elA A c T) c T T
theorem el_at {T c : Nat} {A : Nat → Nat → Nat} {a b : Nat} : el T c A a b = elR (elA A c T) c T T a b := Eq.trans rfl rfl
def elN (T : Nat) (A : Nat → Nat → Nat) : Nat → Nat → Nat → Nat
  | 0 => A
  | k + 1 => el T k (elN T A k)
theorem elN_s {T : Nat} {A : Nat → Nat → Nat} {k : Nat} : elN T A (k + 1) = el T k (elN T A k) := Eq.trans rfl rfl
def bd (T : Nat) (A : Nat → Nat → Nat) : Prop := ∀ a b, a < T → b ≤ T → A a b < 97
theorem bd_A {T c : Nat} {A : Nat → Nat → Nat} (h : bd T A) : bd T (elA A c T) := fun a b ha hb => by
  rw [elA_at]
  split
  · exact Nat.mod_lt _ (by decide)
  · exact h a b ha hb
theorem bd_R {T c x : Nat} {A : Nat → Nat → Nat} (h : bd T A) : bd T (elR A c T x) := fun a b ha hb => by
  rw [elR_at]
  split
  · exact Nat.mod_lt _ (by decide)
  · exact h a b ha hb
theorem bd_el {T c : Nat} {A : Nat → Nat → Nat} (h : bd T A) : bd T (el T c A) := bd_R (bd_A h)
theorem bd_N {T : Nat} {A : Nat → Nat → Nat} (h : bd T A) : ∀ k, bd T (elN T A k)
  | 0 => h
  | k + 1 => bd_el (bd_N h k)
theorem zel_c {T c j : Nat} {A : Nat → Nat → Nat} (h : bd T A) (hc : c < T) (h1 : c ≤ j) (h2 : j ≤ T) : zz (el T c A c j) = zz (A c j) * iz (zz (A c c)) := by
  have l := h c c hc (by omega)
  rw [el_at, elR_at, if_neg (by omega), elA_at, if_pos (by omega), zz_mod, zz_mul, ← zz_iv, Nat.mod_eq_of_lt l]
theorem zel_i {T c i j : Nat} {A : Nat → Nat → Nat} (h : bd T A) (hc : c < T) (hi : i < T) (hic : i ≠ c) (h1 : c ≤ j) (h2 : j ≤ T) : zz (el T c A i j) = zz (A i j) - zz (A i c) * zz (el T c A c j) := by
  have l := (bd_A (c := c) h) c j hc h2
  have l2 := h i c hi (by omega)
  have e : el T c A c j = elA A c T c j := by rw [el_at, elR_at, if_neg (by omega)]
  have e1 : elA A c T i j = A i j := by rw [elA_at, if_neg (by omega)]
  have e2 : elA A c T i c = A i c := by rw [elA_at, if_neg (by omega)]
  have b : A i c * elA A c T c j ≤ 96 * 96 := Nat.mul_le_mul (by omega) (by omega)
  rw [e, el_at, elR_at, if_pos (by omega), e1, e2, zz_mod, zz_subm (by omega) (show zz 9409 = 0 from rfl), zz_mul]
theorem zN_c {T c j : Nat} {A : Nat → Nat → Nat} (h : bd T A) (hc : c < T) (h1 : c ≤ j) (h2 : j ≤ T) : zz (elN T A (c + 1) c j) = zz (elN T A c c j) * iz (zz (elN T A c c c)) := zel_c (bd_N h c) hc h1 h2
theorem zN_i {T c i j : Nat} {A : Nat → Nat → Nat} (h : bd T A) (hc : c < T) (hi : i < T) (hic : i ≠ c) (h1 : c ≤ j) (h2 : j ≤ T) : zz (elN T A (c + 1) i j) = zz (elN T A c i j) - zz (elN T A c i c) * zz (elN T A (c + 1) c j) := zel_i (bd_N h c) hc hi hic h1 h2
theorem elim3 {R : Type} [Lean.Grind.CommRing R] {u v w z y s0 s1 s2 x12 x13 x02 x03 x22 x23 g0 g1 g2 : R} (n10 : (v - u) * z = 1) (c12 : x12 = (v * v - u * u) * z) (c13 : x13 = (s1 - s0) * z) (c02 : x02 = u * u - u * x12) (c03 : x03 = s0 - u * x13) (c22 : x22 = w * w - u * u - (w - u) * x12) (c23 : x23 = s2 - s0 - (w - u) * x13) (n22 : x22 * y = 1) (d2 : g2 = x23 * y) (d1 : g1 = x13 - x12 * g2) (d0 : g0 = x03 - x02 * g2) :
    g0 + g1 * u + g2 * u * u = s0 ∧ g0 + g1 * v + g2 * v * v = s1 ∧ g0 + g1 * w + g2 * w * w = s2 := by
  have k12 : x12 = u + v := by
    clear c13 c02 c03 c22 c23 n22 d2 d1 d0
    grobner
  have k13 : (v - u) * x13 = s1 - s0 := by
    clear c12 c02 c03 c22 c23 n22 d2 d1 d0 k12
    grobner
  have k2 : g2 * x22 = x23 := by
    clear c12 c13 c02 c03 c22 c23 n10 d1 d0 k12 k13
    grobner
  clear n10 c12 c13 n22 d2
  subst k12 c02 c03 c22 c23 d1 d0
  refine ⟨?_, ?_, ?_⟩
  · clear k13 k2
    grobner
  · clear k2
    grobner
  · clear k13
    grobner
theorem gauss_ok {T : Nat} {s t : Nat → Nat} {A : Nat → Nat → Nat} (hT : 1 ≤ T ∧ T ≤ 3) (hb : bd T A) (ht : Tu T t) (h1 : ∀ i, i < T → (∀ j, j < T → A i j = pw (t i + 1) j) ∧ A i T = s (t i)) : ∀ k, k < T → zz (elN T A T k T) = cf T s t k := by
  have p0 : ∀ i, i < T → zz (A i 0) = 1 := fun i hi => by rw [(h1 i hi).1 0 (by omega)]; rfl
  have p1 : ∀ i, i < T → 1 < T → zz (A i 1) = ps t i := fun i hi h => by
    rw [(h1 i hi).1 1 h]
    show zz (1 * (t i + 1) % 97) = _
    rw [zz_mod, Nat.one_mul]; rfl
  have p2 : ∀ i, i < T → 2 < T → zz (A i 2) = ps t i * ps t i := fun i hi h => by
    rw [(h1 i hi).1 2 h]
    show zz (1 * (t i + 1) % 97 * (t i + 1) % 97) = _
    rw [zz_mod, zz_mul, zz_mod, Nat.one_mul]; rfl
  have pT : ∀ i, i < T → zz (A i T) = zz (s (t i)) := fun i hi => by rw [(h1 i hi).2]
  have i1 : iz 1 = 1 := by decide +kernel
  have b1 := bd_N hb 1
  have b2 := bd_N hb 2
  have m1 : ∀ z : Z, z * 1 = z := fun z => Fin.mul_one z
  have m2 : ∀ z : Z, 1 * z = z := fun z => Fin.one_mul z
  intro k hk
  rcases (show T = 1 ∨ T = 2 ∨ T = 3 by omega) with rfl | rfl | rfl
  · obtain rfl : k = 0 := by omega
    rw [zN_c (T := 1) (c := 0) (j := 1) hb (by decide) (by decide) (by decide)]
    show zz (A 0 1) * iz (zz (A 0 0)) = _
    rw [p0 0 (by decide), pT 0 (by decide), i1, m1]
    simp [cf, cf0]
  · have n10 := iz_mul (ht.nz (by decide : 1 < 2) (by decide : 0 < 2) (by decide))
    have a01 : zz (elN 2 A 1 0 1) = ps t 0 := by
      rw [zN_c (T := 2) (c := 0) (j := 1) hb (by decide) (by decide) (by decide)]
      show zz (A 0 1) * iz (zz (A 0 0)) = _
      rw [p0 0 (by decide), p1 0 (by decide) (by decide), i1, m1]
    have a02 : zz (elN 2 A 1 0 2) = zz (s (t 0)) := by
      rw [zN_c (T := 2) (c := 0) (j := 2) hb (by decide) (by decide) (by decide)]
      show zz (A 0 2) * iz (zz (A 0 0)) = _
      rw [p0 0 (by decide), pT 0 (by decide), i1, m1]
    have a11 : zz (elN 2 A 1 1 1) = ps t 1 - ps t 0 := by
      rw [← a01, zN_i (T := 2) (c := 0) (i := 1) (j := 1) hb (by decide) (by decide) (by decide) (by decide) (by decide)]
      show zz (A 1 1) - zz (A 1 0) * _ = _
      rw [p0 1 (by decide), p1 1 (by decide) (by decide), m2]
    have a12 : zz (elN 2 A 1 1 2) = zz (s (t 1)) - zz (s (t 0)) := by
      rw [← a02, zN_i (T := 2) (c := 0) (i := 1) (j := 2) hb (by decide) (by decide) (by decide) (by decide) (by decide)]
      show zz (A 1 2) - zz (A 1 0) * _ = _
      rw [p0 1 (by decide), pT 1 (by decide), m2]
    have d1 : zz (elN 2 A 2 1 2) = (zz (s (t 1)) - zz (s (t 0))) * iz (ps t 1 - ps t 0) := by
      rw [zN_c (T := 2) (c := 1) (j := 2) hb (by decide) (by decide) (by decide), a12, a11]
    have d0 : zz (elN 2 A 2 0 2) = zz (s (t 0)) - ps t 0 * zz (elN 2 A 2 1 2) := by
      rw [zN_i (T := 2) (c := 1) (i := 0) (j := 2) hb (by decide) (by decide) (by decide) (by decide) (by decide), a02, a01]
    have q := newton2 n10 d1 (g0 := zz (elN 2 A 2 0 2)) (by
      rw [d0]
      generalize ps t 0 = u
      generalize zz (elN 2 A 2 1 2) = v
      clear d0 d1 a12 a11 a02 a01 n10 h1 p0 p1 p2 pT i1 b1 b2 m1 m2 hb ht hT
      grobner)
    have hu := cf_uniq (s := s) (δ := fun k => if k = 0 then zz (elN 2 A 2 0 2) else if k = 1 then zz (elN 2 A 2 1 2) else 0) hT ht (fun k h1 h2 => by
      obtain rfl : k = 2 := by omega
      rfl) (fun i hi => by
      show zz (elN 2 A 2 0 2) + zz (elN 2 A 2 1 2) * ps t i + 0 * ps t i * ps t i = _
      rcases (show i = 0 ∨ i = 1 by omega) with rfl | rfl
      · rw [← q.1]
        generalize ps t 0 = u
        generalize zz (elN 2 A 2 1 2) = v
        generalize zz (elN 2 A 2 0 2) = w
        clear d0 d1 a12 a11 a02 a01 n10 h1 p0 p1 p2 pT i1 b1 b2 m1 m2 hb ht hT q
        grobner
      · rw [← q.2]
        generalize ps t 1 = u
        generalize zz (elN 2 A 2 1 2) = v
        generalize zz (elN 2 A 2 0 2) = w
        clear d0 d1 a12 a11 a02 a01 n10 h1 p0 p1 p2 pT i1 b1 b2 m1 m2 hb ht hT q
        grobner)
    rcases (show k = 0 ∨ k = 1 by omega) with rfl | rfl
    · exact hu.1
    · exact hu.2.1
  · have n10 := iz_mul (ht.nz (by decide : 1 < 3) (by decide : 0 < 3) (by decide))
    have a01 : zz (elN 3 A 1 0 1) = ps t 0 := by
      rw [zN_c (T := 3) (c := 0) (j := 1) hb (by decide) (by decide) (by decide)]
      show zz (A 0 1) * iz (zz (A 0 0)) = _
      rw [p0 0 (by decide), p1 0 (by decide) (by decide), i1, m1]
    have a02 : zz (elN 3 A 1 0 2) = ps t 0 * ps t 0 := by
      rw [zN_c (T := 3) (c := 0) (j := 2) hb (by decide) (by decide) (by decide)]
      show zz (A 0 2) * iz (zz (A 0 0)) = _
      rw [p0 0 (by decide), p2 0 (by decide) (by decide), i1, m1]
    have a03 : zz (elN 3 A 1 0 3) = zz (s (t 0)) := by
      rw [zN_c (T := 3) (c := 0) (j := 3) hb (by decide) (by decide) (by decide)]
      show zz (A 0 3) * iz (zz (A 0 0)) = _
      rw [p0 0 (by decide), pT 0 (by decide), i1, m1]
    have a11 : zz (elN 3 A 1 1 1) = ps t 1 - ps t 0 := by
      rw [← a01, zN_i (T := 3) (c := 0) (i := 1) (j := 1) hb (by decide) (by decide) (by decide) (by decide) (by decide)]
      show zz (A 1 1) - zz (A 1 0) * _ = _
      rw [p0 1 (by decide), p1 1 (by decide) (by decide), m2]
    have a12 : zz (elN 3 A 1 1 2) = ps t 1 * ps t 1 - ps t 0 * ps t 0 := by
      rw [← a02, zN_i (T := 3) (c := 0) (i := 1) (j := 2) hb (by decide) (by decide) (by decide) (by decide) (by decide)]
      show zz (A 1 2) - zz (A 1 0) * _ = _
      rw [p0 1 (by decide), p2 1 (by decide) (by decide), m2]
    have a13 : zz (elN 3 A 1 1 3) = zz (s (t 1)) - zz (s (t 0)) := by
      rw [← a03, zN_i (T := 3) (c := 0) (i := 1) (j := 3) hb (by decide) (by decide) (by decide) (by decide) (by decide)]
      show zz (A 1 3) - zz (A 1 0) * _ = _
      rw [p0 1 (by decide), pT 1 (by decide), m2]
    have a21 : zz (elN 3 A 1 2 1) = ps t 2 - ps t 0 := by
      rw [← a01, zN_i (T := 3) (c := 0) (i := 2) (j := 1) hb (by decide) (by decide) (by decide) (by decide) (by decide)]
      show zz (A 2 1) - zz (A 2 0) * _ = _
      rw [p0 2 (by decide), p1 2 (by decide) (by decide), m2]
    have a22 : zz (elN 3 A 1 2 2) = ps t 2 * ps t 2 - ps t 0 * ps t 0 := by
      rw [← a02, zN_i (T := 3) (c := 0) (i := 2) (j := 2) hb (by decide) (by decide) (by decide) (by decide) (by decide)]
      show zz (A 2 2) - zz (A 2 0) * _ = _
      rw [p0 2 (by decide), p2 2 (by decide) (by decide), m2]
    have a23 : zz (elN 3 A 1 2 3) = zz (s (t 2)) - zz (s (t 0)) := by
      rw [← a03, zN_i (T := 3) (c := 0) (i := 2) (j := 3) hb (by decide) (by decide) (by decide) (by decide) (by decide)]
      show zz (A 2 3) - zz (A 2 0) * _ = _
      rw [p0 2 (by decide), pT 2 (by decide), m2]
    have c12 : zz (elN 3 A 2 1 2) = (ps t 1 * ps t 1 - ps t 0 * ps t 0) * iz (ps t 1 - ps t 0) := by
      rw [zN_c (T := 3) (c := 1) (j := 2) hb (by decide) (by decide) (by decide), a12, a11]
    have c13 : zz (elN 3 A 2 1 3) = (zz (s (t 1)) - zz (s (t 0))) * iz (ps t 1 - ps t 0) := by
      rw [zN_c (T := 3) (c := 1) (j := 3) hb (by decide) (by decide) (by decide), a13, a11]
    have c02 : zz (elN 3 A 2 0 2) = ps t 0 * ps t 0 - ps t 0 * zz (elN 3 A 2 1 2) := by
      rw [zN_i (T := 3) (c := 1) (i := 0) (j := 2) hb (by decide) (by decide) (by decide) (by decide) (by decide), a02, a01]
    have c03 : zz (elN 3 A 2 0 3) = zz (s (t 0)) - ps t 0 * zz (elN 3 A 2 1 3) := by
      rw [zN_i (T := 3) (c := 1) (i := 0) (j := 3) hb (by decide) (by decide) (by decide) (by decide) (by decide), a03, a01]
    have c22 : zz (elN 3 A 2 2 2) = ps t 2 * ps t 2 - ps t 0 * ps t 0 - (ps t 2 - ps t 0) * zz (elN 3 A 2 1 2) := by
      rw [zN_i (T := 3) (c := 1) (i := 2) (j := 2) hb (by decide) (by decide) (by decide) (by decide) (by decide), a22, a21]
    have c23 : zz (elN 3 A 2 2 3) = zz (s (t 2)) - zz (s (t 0)) - (ps t 2 - ps t 0) * zz (elN 3 A 2 1 3) := by
      rw [zN_i (T := 3) (c := 1) (i := 2) (j := 3) hb (by decide) (by decide) (by decide) (by decide) (by decide), a23, a21]
    have d2 : zz (elN 3 A 3 2 3) = zz (elN 3 A 2 2 3) * iz (zz (elN 3 A 2 2 2)) := by
      rw [zN_c (T := 3) (c := 2) (j := 3) hb (by decide) (by decide) (by decide)]
    have d1 : zz (elN 3 A 3 1 3) = zz (elN 3 A 2 1 3) - zz (elN 3 A 2 1 2) * zz (elN 3 A 3 2 3) := by
      rw [zN_i (T := 3) (c := 2) (i := 1) (j := 3) hb (by decide) (by decide) (by decide) (by decide) (by decide)]
    have d0 : zz (elN 3 A 3 0 3) = zz (elN 3 A 2 0 3) - zz (elN 3 A 2 0 2) * zz (elN 3 A 3 2 3) := by
      rw [zN_i (T := 3) (c := 2) (i := 0) (j := 3) hb (by decide) (by decide) (by decide) (by decide) (by decide)]
    have n22 : zz (elN 3 A 2 2 2) ≠ 0 := by
      have e : zz (elN 3 A 2 2 2) = (ps t 2 - ps t 0) * (ps t 2 - ps t 1) := by
        rw [c22, c12]
        generalize ps t 0 = u at *
        generalize ps t 1 = v at *
        generalize ps t 2 = w at *
        generalize iz (v - u) = z at *
        clear d0 d1 d2 c12 c13 c02 c03 c22 c23 a01 a02 a03 a11 a12 a13 a21 a22 a23 h1 p0 p1 p2 pT i1 b1 b2 m1 m2 hb ht hT
        grobner
      rw [e]
      exact nz_mul (ht.nz (by decide) (by decide) (by decide)) (ht.nz (by decide) (by decide) (by decide))
    have n22' := iz_mul n22
    have q := elim3 n10 c12 c13 c02 c03 c22 c23 n22' d2 d1 d0
    have hu := cf_uniq (s := s) (δ := fun k => if k = 0 then zz (elN 3 A 3 0 3) else if k = 1 then zz (elN 3 A 3 1 3) else zz (elN 3 A 3 2 3)) hT ht (fun k h1 h2 => by omega) (fun i hi => by
      rcases (show i = 0 ∨ i = 1 ∨ i = 2 by omega) with rfl | rfl | rfl
      · exact q.1
      · exact q.2.1
      · exact q.2.2)
    rcases (show k = 0 ∨ k = 1 ∨ k = 2 by omega) with rfl | rfl | rfl
    · exact hu.1
    · exact hu.2.1
    · exact hu.2.2
theorem elR_0 {B : Nat → Nat → Nat} {c T : Nat} : elR B c T 0 = B := by
  funext a b
  rw [elR_at, if_neg (by omega)]
theorem elR_c {B : Nat → Nat → Nat} {c T : Nat} : elR B c T (c + 1) = elR B c T c := by
  funext a b
  rw [elR_at, elR_at]
  by_cases q : a < c ∧ a ≠ c ∧ c ≤ b ∧ b ≤ T
  · rw [if_pos q, if_pos (by omega)]
  · rw [if_neg q, if_neg (by omega)]
theorem elR_s {B : Nat → Nat → Nat} {c T x : Nat} (h : x ≠ c) : elR B c T (x + 1) = rowU (elR B c T x) x c (T + 1) (fun j => (elR B c T x x j + 9409 - elR B c T x x c * elR B c T x c j) % 97) := by
  funext a b
  have e : ∀ j, elR B c T x x j = B x j := fun j => by rw [elR_at, if_neg (by omega)]
  have e2 : ∀ j, elR B c T x c j = B c j := fun j => by rw [elR_at, if_neg (by omega)]
  rw [rowU_at, elR_at]
  simp only [e, e2]
  by_cases q : a = x ∧ c ≤ b ∧ b < T + 1
  · obtain ⟨rfl, q2, q3⟩ := q
    rw [if_pos (by omega), if_pos (by omega)]
  · rw [if_neg q, elR_at]
    by_cases r : a < x ∧ a ≠ c ∧ c ≤ b ∧ b ≤ T
    · rw [if_pos r, if_pos (by omega)]
    · rw [if_neg r, if_neg (by omega)]
theorem c_elimA {M0 M : Mem} {A : Nat → Nat → Nat} {c T N : Nat} (hm : Mt M0 M A) (hT : T ≤ 3) (hc : c < T) (hb : bd T A) (hN : N = 1000) (kk : Mem → Option (Unit × Mem)) :
    ∃ M1, Mt M0 M1 (elA A c T) ∧ f_X8_eliminate_L19 (nI c) (nI T) (nI (ivN (A c c))) N (nI c) M kk = kk M1 := by
  have li := ivN_lt (hb c c hc (by omega))
  obtain ⟨M2, hm2, key⟩ := mloopP (F := fun n x (M1 : Mem) kk => f_X8_eliminate_L19 (nI c) (nI T) (nI (ivN (A c c))) n x M1 kk) (c := T + 1) (fun x M1 => c ≤ x ∧ Mt M0 M1 (rowU A c c x (fun j => A c j * ivN (A c c) % 97))) (fun n x M1 kk hx hm1 => by
    obtain ⟨hcx, hm1⟩ := hm1
    have m1 := Mt_at hm1 (show c < 3 by omega) (show x < 4 by omega)
    rw [rowU_at, if_neg (by omega)] at m1
    have b1 := mul_lt (hb c x hc (by omega)) li
    have e := nI_rem (a := A c x * ivN (A c c)) (b := 97) (by omega) (by decide)
    refine ⟨mup M1 12 (21 + c) x (nI (A c x * ivN (A c c) % 97)), ⟨by omega, ?_⟩, ?_⟩
    · rw [← rowU_s hcx]
      exact Mt_up hm1 (by omega)
    · show f_X8_eliminate_L19 (nI c) (nI T) (nI (ivN (A c c))) (n + 1) (nI x) M1 kk = _
      rw [f_X8_eliminate_L19.eq_2]
      simp (disch := omega) only [lit_0, lit_1, lit_2, lit_3, lit_4, lit_5, lit_6, lit_7, lit_8, lit_9, lit_10, lit_11, lit_12, lit_13, lit_14, lit_15, lit_16, lit_20, lit_23, lit_24, lit_31, lit_32, lit_39, lit_43, lit_45, lit_47, lit_48, lit_56, lit_57, lit_59, lit_60, lit_62, lit_63, lit_89, lit_92, lit_96, lit_97, lit_99, lit_100, lit_102, lit_103, lit_104, lit_110, lit_111, lit_115, lit_117, lit_194, lit_200, lit_644, lit_736, lit_999, lit_1000, lit_9999, lit_10000, lit_1000000000, ↓wp_mlet, ↓wp_mbp, ↓wp_ite, ↓wp_mix, ↓wp_mdiv, ↓wp_mnz, ↓wp_some, ↓wp_mbnd, ↓mlet_eq, ↓mbp_eq, ↓mbnd_eq, ↓mix_ite, ↓mdiv_ite, ↓mnz_ite, nI_add, nI_mul, nI_nat, nI_ltE, nI_leE, nI_eqE, nI_eqN, nI_Neq, nI_Nlt, nI_Nle, nI_ltN, nI_leN, ↓reduceIte, ↓Nat.reduceEqDiff, and_f, nt_e, nt_t, nl_t, nl_f, ne_t, ne_f, and_self, or_self, or_true, true_or, or_false, false_or, if_true, if_false, and_true, true_and, and_false, false_and, not_true, not_false_iff, m1, e]) (fun n M1 kk _ => by
    show f_X8_eliminate_L19 (nI c) (nI T) (nI (ivN (A c c))) (n + 1) (nI (T + 1)) M1 kk = _
    rw [f_X8_eliminate_L19.eq_2]
    simp (disch := omega) only [lit_0, lit_1, lit_2, lit_3, lit_4, lit_5, lit_6, lit_7, lit_8, lit_9, lit_10, lit_11, lit_12, lit_13, lit_14, lit_15, lit_16, lit_20, lit_23, lit_24, lit_31, lit_32, lit_39, lit_43, lit_45, lit_47, lit_48, lit_56, lit_57, lit_59, lit_60, lit_62, lit_63, lit_89, lit_92, lit_96, lit_97, lit_99, lit_100, lit_102, lit_103, lit_104, lit_110, lit_111, lit_115, lit_117, lit_194, lit_200, lit_644, lit_736, lit_999, lit_1000, lit_9999, lit_10000, lit_1000000000, ↓wp_mlet, ↓wp_mbp, ↓wp_ite, ↓wp_mix, ↓wp_mdiv, ↓wp_mnz, ↓wp_some, ↓wp_mbnd, ↓mlet_eq, ↓mbp_eq, ↓mbnd_eq, ↓mix_ite, ↓mdiv_ite, ↓mnz_ite, nI_add, nI_mul, nI_nat, nI_ltE, nI_leE, nI_eqE, nI_eqN, nI_Neq, nI_Nlt, nI_Nle, nI_ltN, nI_leN, ↓reduceIte, ↓Nat.reduceEqDiff, and_f, nt_e, nt_t, nl_t, nl_f, ne_t, ne_f, and_self, or_self, or_true, true_or, or_false, false_or, if_true, if_false, and_true, true_and, and_false, false_and, not_true, not_false_iff]) (T + 1 - c) N c M kk (by omega) (by omega) ⟨Nat.le_refl c, by rw [rowU_0]; exact hm⟩
  exact ⟨M2, hm2.2, key⟩
theorem c_elimR {M0 M : Mem} {B : Nat → Nat → Nat} {c T N : Nat} (hm : Mt M0 M B) (hT : T ≤ 3) (hc : c < T) (hb : bd T B) (hN : N = 1000) (kk : Mem → Option (Unit × Mem)) :
    ∃ M1, Mt M0 M1 (elR B c T T) ∧ f_X8_eliminate_L48 (nI c) (nI T) N (nI 0) M kk = kk M1 := by
  obtain ⟨M2, hm2, key⟩ := mloopP (F := fun n x (M1 : Mem) kk => f_X8_eliminate_L48 (nI c) (nI T) n x M1 kk) (c := T) (fun x M1 => Mt M0 M1 (elR B c T x)) (fun n x M1 kk hx hm1 => by
    by_cases q : x = c
    · refine ⟨M1, ?_, ?_⟩
      · have h2 : elR B c T (x + 1) = elR B c T x := by rw [q]; exact elR_c
        rw [h2]; exact hm1
      · show f_X8_eliminate_L48 (nI c) (nI T) (n + 1) (nI x) M1 kk = _
        rw [f_X8_eliminate_L48.eq_2]
        simp (disch := omega) only [lit_0, lit_1, lit_2, lit_3, lit_4, lit_5, lit_6, lit_7, lit_8, lit_9, lit_10, lit_11, lit_12, lit_13, lit_14, lit_15, lit_16, lit_20, lit_23, lit_24, lit_31, lit_32, lit_39, lit_43, lit_45, lit_47, lit_48, lit_56, lit_57, lit_59, lit_60, lit_62, lit_63, lit_89, lit_92, lit_96, lit_97, lit_99, lit_100, lit_102, lit_103, lit_104, lit_110, lit_111, lit_115, lit_117, lit_194, lit_200, lit_644, lit_736, lit_999, lit_1000, lit_9999, lit_10000, lit_1000000000, ↓wp_mlet, ↓wp_mbp, ↓wp_ite, ↓wp_mix, ↓wp_mdiv, ↓wp_mnz, ↓wp_some, ↓wp_mbnd, ↓mlet_eq, ↓mbp_eq, ↓mbnd_eq, ↓mix_ite, ↓mdiv_ite, ↓mnz_ite, nI_add, nI_mul, nI_nat, nI_ltE, nI_leE, nI_eqE, nI_eqN, nI_Neq, nI_Nlt, nI_Nle, nI_ltN, nI_leN, ↓reduceIte, ↓Nat.reduceEqDiff, and_f, nt_e, nt_t, nl_t, nl_f, ne_t, ne_f, and_self, or_self, or_true, true_or, or_false, false_or, if_true, if_false, and_true, true_and, and_false, false_and, not_true, not_false_iff]
    · have hb1 := bd_R (c := c) (x := x) hb
      obtain ⟨r, M3, e, h3⟩ := c_sub hm1 (show x < 3 by omega) (show c < 3 by omega) q hT (by omega) (fun b _ h => hb1 x b (by omega) h) (fun b _ h => hb1 c b (by omega) h)
      refine ⟨M3, ?_, ?_⟩
      · rw [elR_s q]; exact h3
      · show f_X8_eliminate_L48 (nI c) (nI T) (n + 1) (nI x) M1 kk = _
        rw [f_X8_eliminate_L48.eq_2]
        simp (disch := omega) only [lit_0, lit_1, lit_2, lit_3, lit_4, lit_5, lit_6, lit_7, lit_8, lit_9, lit_10, lit_11, lit_12, lit_13, lit_14, lit_15, lit_16, lit_20, lit_23, lit_24, lit_31, lit_32, lit_39, lit_43, lit_45, lit_47, lit_48, lit_56, lit_57, lit_59, lit_60, lit_62, lit_63, lit_89, lit_92, lit_96, lit_97, lit_99, lit_100, lit_102, lit_103, lit_104, lit_110, lit_111, lit_115, lit_117, lit_194, lit_200, lit_644, lit_736, lit_999, lit_1000, lit_9999, lit_10000, lit_1000000000, ↓wp_mlet, ↓wp_mbp, ↓wp_ite, ↓wp_mix, ↓wp_mdiv, ↓wp_mnz, ↓wp_some, ↓wp_mbnd, ↓mlet_eq, ↓mbp_eq, ↓mbnd_eq, ↓mix_ite, ↓mdiv_ite, ↓mnz_ite, nI_add, nI_mul, nI_nat, nI_ltE, nI_leE, nI_eqE, nI_eqN, nI_Neq, nI_Nlt, nI_Nle, nI_ltN, nI_leN, ↓reduceIte, ↓Nat.reduceEqDiff, and_f, nt_e, nt_t, nl_t, nl_f, ne_t, ne_f, and_self, or_self, or_true, true_or, or_false, false_or, if_true, if_false, and_true, true_and, and_false, false_and, not_true, not_false_iff, e]) (fun n M1 kk _ => by
    show f_X8_eliminate_L48 (nI c) (nI T) (n + 1) (nI T) M1 kk = _
    rw [f_X8_eliminate_L48.eq_2]
    simp (disch := omega) only [lit_0, lit_1, lit_2, lit_3, lit_4, lit_5, lit_6, lit_7, lit_8, lit_9, lit_10, lit_11, lit_12, lit_13, lit_14, lit_15, lit_16, lit_20, lit_23, lit_24, lit_31, lit_32, lit_39, lit_43, lit_45, lit_47, lit_48, lit_56, lit_57, lit_59, lit_60, lit_62, lit_63, lit_89, lit_92, lit_96, lit_97, lit_99, lit_100, lit_102, lit_103, lit_104, lit_110, lit_111, lit_115, lit_117, lit_194, lit_200, lit_644, lit_736, lit_999, lit_1000, lit_9999, lit_10000, lit_1000000000, ↓wp_mlet, ↓wp_mbp, ↓wp_ite, ↓wp_mix, ↓wp_mdiv, ↓wp_mnz, ↓wp_some, ↓wp_mbnd, ↓mlet_eq, ↓mbp_eq, ↓mbnd_eq, ↓mix_ite, ↓mdiv_ite, ↓mnz_ite, nI_add, nI_mul, nI_nat, nI_ltE, nI_leE, nI_eqE, nI_eqN, nI_Neq, nI_Nlt, nI_Nle, nI_ltN, nI_leN, ↓reduceIte, ↓Nat.reduceEqDiff, and_f, nt_e, nt_t, nl_t, nl_f, ne_t, ne_f, and_self, or_self, or_true, true_or, or_false, false_or, if_true, if_false, and_true, true_and, and_false, false_and, not_true, not_false_iff]) T N 0 M kk (by omega) (by omega) (by rw [elR_0]; exact hm)
  exact ⟨M2, hm2, key⟩
theorem c_elim {M0 M : Mem} {A : Nat → Nat → Nat} {c T : Nat} (hm : Mt M0 M A) (hT : T ≤ 3) (hc : c < T) (hb : bd T A) : wp (f_X8_eliminate (nI c) (nI T) M) fun _ M1 => Mt M0 M1 (el T c A) := by
  have m1 := Mt_at hm (show c < 3 by omega) (show c < 4 by omega)
  have l := hb c c hc (by omega)
  have e := ivN_nI l
  unfold f_X8_eliminate
  generalize hN : (1000 : Nat) = N
  obtain ⟨M1, h1, k1⟩ := c_elimA hm hT hc hb hN.symm (fun M7 => f_X8_eliminate_L48 (nI c) (nI T) N (nI 0) M7 (fun M17 => some ((), M17)))
  obtain ⟨M2, h2, k2⟩ := c_elimR h1 hT hc (bd_A hb) hN.symm (fun M17 => some ((), M17))
  simp (disch := omega) only [lit_0, lit_1, lit_2, lit_3, lit_4, lit_5, lit_6, lit_7, lit_8, lit_9, lit_10, lit_11, lit_12, lit_13, lit_14, lit_15, lit_16, lit_20, lit_23, lit_24, lit_31, lit_32, lit_39, lit_43, lit_45, lit_47, lit_48, lit_56, lit_57, lit_59, lit_60, lit_62, lit_63, lit_89, lit_92, lit_96, lit_97, lit_99, lit_100, lit_102, lit_103, lit_104, lit_110, lit_111, lit_115, lit_117, lit_194, lit_200, lit_644, lit_736, lit_999, lit_1000, lit_9999, lit_10000, lit_1000000000, ↓wp_mlet, ↓wp_mbp, ↓wp_ite, ↓wp_mix, ↓wp_mdiv, ↓wp_mnz, ↓wp_some, ↓wp_mbnd, ↓mlet_eq, ↓mbp_eq, ↓mbnd_eq, ↓mix_ite, ↓mdiv_ite, ↓mnz_ite, nI_add, nI_mul, nI_nat, nI_ltE, nI_leE, nI_eqE, nI_eqN, nI_Neq, nI_Nlt, nI_Nle, nI_ltN, nI_leN, ↓reduceIte, ↓Nat.reduceEqDiff, and_f, nt_e, nt_t, nl_t, nl_f, ne_t, ne_f, and_self, or_self, or_true, true_or, or_false, false_or, if_true, if_false, and_true, true_and, and_false, false_and, not_true, not_false_iff, m1, e]
  rw [k1, k2, wp_some]
  exact h2
/-- the fit -/
theorem c_fit {M : Mem} {g ga ia T : Nat} {s t : Nat → Nat} (h : Lk M g ga ia T s t) (hg : g ≠ 12) (hga : ¬ (ga = 12 ∧ 21 ≤ ia ∧ ia ≤ 24)) :
    wp (f_X8_fit g ga ia M) fun _ M1 => (∀ k, k < 3 → M1 12 24 k = nI (cf T s t k).val) ∧ ∀ a b, ¬ (a = 12 ∧ 21 ≤ b ∧ b ≤ 24) → M1 a b = M a b := by
  obtain ⟨h3, hT, hs, ht, hu⟩ := id h
  unfold f_X8_fit
  generalize hN : (1000 : Nat) = N
  simp only [lit_0, lit_1, lit_2, lit_3, lit_4, lit_5, lit_6, lit_7, lit_8, lit_9, lit_10, lit_11, lit_12, lit_13, lit_14, lit_15, lit_16, lit_20, lit_23, lit_24, lit_31, lit_32, lit_39, lit_43, lit_45, lit_47, lit_48, lit_56, lit_57, lit_59, lit_60, lit_62, lit_63, lit_89, lit_92, lit_96, lit_97, lit_99, lit_100, lit_102, lit_103, lit_104, lit_110, lit_111, lit_115, lit_117, lit_194, lit_200, lit_644, lit_736, lit_999, lit_1000, lit_9999, lit_10000, lit_1000000000, mlet_eq, h3]
  obtain ⟨M1, ⟨A, hm1, hA⟩, k1⟩ := mloopP (F := fun n x (M1 : Mem) kk => f_X8_fit_L8 g ga ia (nI T) n x M1 kk) (c := T) (fun x M1 => ∃ A, Mt M M1 A ∧ ∀ i, i < x → (∀ j, j < T → A i j = pw (t i + 1) j) ∧ A i T = s (t i)) (fun n x M1 kk hx hP => by
    obtain ⟨A, hm1, hA⟩ := hP
    have lx := hu.1 x hx
    have e1 : M1 ga ia x = nI (t x) := by rw [hm1.2 ga ia hga, ht x hx]
    have e2 : M1 g 2 (t x) = nI (s (t x)) := by rw [hm1.2 g 2 (by omega), (hs (t x) lx).1]
    obtain ⟨r, M3, e, h3⟩ := c_setEq (v := s (t x)) hm1 (show x < 3 by omega) hT.2 lx
    refine ⟨M3, ⟨_, h3, fun i hi => ⟨fun j hj => ?_, ?_⟩⟩, ?_⟩
    · rw [ma_at, if_neg (by omega), rowU_at]
      by_cases q : i = x
      · subst q
        rw [if_pos (by omega)]
      · rw [if_neg (by omega)]
        exact (hA i (by omega)).1 j hj
    · rw [ma_at]
      by_cases q : i = x
      · subst q
        rw [if_pos (by omega)]
      · rw [if_neg (by omega), rowU_at, if_neg (by omega)]
        exact (hA i (by omega)).2
    · show f_X8_fit_L8 g ga ia (nI T) (n + 1) (nI x) M1 kk = _
      rw [f_X8_fit_L8.eq_2]
      simp (disch := omega) only [lit_0, lit_1, lit_2, lit_3, lit_4, lit_5, lit_6, lit_7, lit_8, lit_9, lit_10, lit_11, lit_12, lit_13, lit_14, lit_15, lit_16, lit_20, lit_23, lit_24, lit_31, lit_32, lit_39, lit_43, lit_45, lit_47, lit_48, lit_56, lit_57, lit_59, lit_60, lit_62, lit_63, lit_89, lit_92, lit_96, lit_97, lit_99, lit_100, lit_102, lit_103, lit_104, lit_110, lit_111, lit_115, lit_117, lit_194, lit_200, lit_644, lit_736, lit_999, lit_1000, lit_9999, lit_10000, lit_1000000000, ↓wp_mlet, ↓wp_mbp, ↓wp_ite, ↓wp_mix, ↓wp_mdiv, ↓wp_mnz, ↓wp_some, ↓wp_mbnd, ↓mlet_eq, ↓mbp_eq, ↓mbnd_eq, ↓mix_ite, ↓mdiv_ite, ↓mnz_ite, nI_add, nI_mul, nI_nat, nI_ltE, nI_leE, nI_eqE, nI_eqN, nI_Neq, nI_Nlt, nI_Nle, nI_ltN, nI_leN, ↓reduceIte, ↓Nat.reduceEqDiff, and_f, nt_e, nt_t, nl_t, nl_f, ne_t, ne_f, and_self, or_self, or_true, true_or, or_false, false_or, if_true, if_false, and_true, true_and, and_false, false_and, not_true, not_false_iff, e1, e2, e]) (fun n M1 kk _ => by
    show f_X8_fit_L8 g ga ia (nI T) (n + 1) (nI T) M1 kk = _
    rw [f_X8_fit_L8.eq_2]
    simp (disch := omega) only [lit_0, lit_1, lit_2, lit_3, lit_4, lit_5, lit_6, lit_7, lit_8, lit_9, lit_10, lit_11, lit_12, lit_13, lit_14, lit_15, lit_16, lit_20, lit_23, lit_24, lit_31, lit_32, lit_39, lit_43, lit_45, lit_47, lit_48, lit_56, lit_57, lit_59, lit_60, lit_62, lit_63, lit_89, lit_92, lit_96, lit_97, lit_99, lit_100, lit_102, lit_103, lit_104, lit_110, lit_111, lit_115, lit_117, lit_194, lit_200, lit_644, lit_736, lit_999, lit_1000, lit_9999, lit_10000, lit_1000000000, ↓wp_mlet, ↓wp_mbp, ↓wp_ite, ↓wp_mix, ↓wp_mdiv, ↓wp_mnz, ↓wp_some, ↓wp_mbnd, ↓mlet_eq, ↓mbp_eq, ↓mbnd_eq, ↓mix_ite, ↓mdiv_ite, ↓mnz_ite, nI_add, nI_mul, nI_nat, nI_ltE, nI_leE, nI_eqE, nI_eqN, nI_Neq, nI_Nlt, nI_Nle, nI_ltN, nI_leN, ↓reduceIte, ↓Nat.reduceEqDiff, and_f, nt_e, nt_t, nl_t, nl_f, ne_t, ne_f, and_self, or_self, or_true, true_or, or_false, false_or, if_true, if_false, and_true, true_and, and_false, false_and, not_true, not_false_iff]) T N 0 M (fun M8 => f_X8_fit_L43 (nI T) N (nI 0) M8 (fun M15 => f_X8_fit_L65 (nI T) N (nI 0) M15 (fun M24 => some ((), M24)))) (by omega) (by omega) ⟨_, Mt_0 M, fun i hi => by omega⟩
  have hb : bd T A := fun a b ha hb => by
    by_cases q : b = T
    · rw [q, (hA a ha).2]
      have := (hs (t a) (hu.1 a ha)).2
      omega
    · rw [(hA a ha).1 b (by omega)]
      exact pw_lt b
  obtain ⟨M2, hm2, k2⟩ := mloopP (F := fun n x (M1 : Mem) kk => f_X8_fit_L43 (nI T) n x M1 kk) (c := T) (fun x M1 => Mt M M1 (elN T A x)) (fun n x M1 kk hx hm1 => by
    obtain ⟨r, M3, e, h3⟩ := c_elim hm1 hT.2 hx (bd_N hb x)
    refine ⟨M3, h3, ?_⟩
    show f_X8_fit_L43 (nI T) (n + 1) (nI x) M1 kk = _
    rw [f_X8_fit_L43.eq_2]
    simp (disch := omega) only [lit_0, lit_1, lit_2, lit_3, lit_4, lit_5, lit_6, lit_7, lit_8, lit_9, lit_10, lit_11, lit_12, lit_13, lit_14, lit_15, lit_16, lit_20, lit_23, lit_24, lit_31, lit_32, lit_39, lit_43, lit_45, lit_47, lit_48, lit_56, lit_57, lit_59, lit_60, lit_62, lit_63, lit_89, lit_92, lit_96, lit_97, lit_99, lit_100, lit_102, lit_103, lit_104, lit_110, lit_111, lit_115, lit_117, lit_194, lit_200, lit_644, lit_736, lit_999, lit_1000, lit_9999, lit_10000, lit_1000000000, ↓wp_mlet, ↓wp_mbp, ↓wp_ite, ↓wp_mix, ↓wp_mdiv, ↓wp_mnz, ↓wp_some, ↓wp_mbnd, ↓mlet_eq, ↓mbp_eq, ↓mbnd_eq, ↓mix_ite, ↓mdiv_ite, ↓mnz_ite, nI_add, nI_mul, nI_nat, nI_ltE, nI_leE, nI_eqE, nI_eqN, nI_Neq, nI_Nlt, nI_Nle, nI_ltN, nI_leN, ↓reduceIte, ↓Nat.reduceEqDiff, and_f, nt_e, nt_t, nl_t, nl_f, ne_t, ne_f, and_self, or_self, or_true, true_or, or_false, false_or, if_true, if_false, and_true, true_and, and_false, false_and, not_true, not_false_iff, e]) (fun n M1 kk _ => by
    show f_X8_fit_L43 (nI T) (n + 1) (nI T) M1 kk = _
    rw [f_X8_fit_L43.eq_2]
    simp (disch := omega) only [lit_0, lit_1, lit_2, lit_3, lit_4, lit_5, lit_6, lit_7, lit_8, lit_9, lit_10, lit_11, lit_12, lit_13, lit_14, lit_15, lit_16, lit_20, lit_23, lit_24, lit_31, lit_32, lit_39, lit_43, lit_45, lit_47, lit_48, lit_56, lit_57, lit_59, lit_60, lit_62, lit_63, lit_89, lit_92, lit_96, lit_97, lit_99, lit_100, lit_102, lit_103, lit_104, lit_110, lit_111, lit_115, lit_117, lit_194, lit_200, lit_644, lit_736, lit_999, lit_1000, lit_9999, lit_10000, lit_1000000000, ↓wp_mlet, ↓wp_mbp, ↓wp_ite, ↓wp_mix, ↓wp_mdiv, ↓wp_mnz, ↓wp_some, ↓wp_mbnd, ↓mlet_eq, ↓mbp_eq, ↓mbnd_eq, ↓mix_ite, ↓mdiv_ite, ↓mnz_ite, nI_add, nI_mul, nI_nat, nI_ltE, nI_leE, nI_eqE, nI_eqN, nI_Neq, nI_Nlt, nI_Nle, nI_ltN, nI_leN, ↓reduceIte, ↓Nat.reduceEqDiff, and_f, nt_e, nt_t, nl_t, nl_f, ne_t, ne_f, and_self, or_self, or_true, true_or, or_false, false_or, if_true, if_false, and_true, true_and, and_false, false_and, not_true, not_false_iff]) T N 0 M1 (fun M15 => f_X8_fit_L65 (nI T) N (nI 0) M15 (fun M24 => some ((), M24))) (by omega) (by omega) hm1
  have hg2 := gauss_ok hT hb hu hA
  have hbN := bd_N hb T
  generalize elN T A T = E at hm2 hg2 hbN
  obtain ⟨M4, ⟨hm4, h4⟩, k4⟩ := mloopP (F := fun n x (M1 : Mem) kk => f_X8_fit_L65 (nI T) n x M1 kk) (c := 3) (fun x M1 => Mt M M1 E ∧ ∀ k, k < x → M1 12 24 k = nI (cf T s t k).val) (fun n x M1 kk hx hP => by
    obtain ⟨hm1, h1⟩ := hP
    have mm : ∀ v, Mt M (mup M1 12 24 x v) E := fun v => ⟨fun i j hi hj => by rw [mup_at, if_neg (by omega)]; exact hm1.1 i j hi hj, fun a b hab => by rw [pm_ne (by omega)]; exact hm1.2 a b hab⟩
    by_cases q : T ≤ x
    · have e : cf T s t x = 0 := cf_deg q
      refine ⟨mup M1 12 24 x (nI 0), ⟨mm _, fun k hk => ?_⟩, ?_⟩
      · rw [mup_at]
        by_cases r : k = x
        · subst r
          rw [if_pos (by omega), e]; rfl
        · rw [if_neg (by omega)]
          exact h1 k (by omega)
      · show f_X8_fit_L65 (nI T) (n + 1) (nI x) M1 kk = _
        rw [f_X8_fit_L65.eq_2]
        simp (disch := omega) only [lit_0, lit_1, lit_2, lit_3, lit_4, lit_5, lit_6, lit_7, lit_8, lit_9, lit_10, lit_11, lit_12, lit_13, lit_14, lit_15, lit_16, lit_20, lit_23, lit_24, lit_31, lit_32, lit_39, lit_43, lit_45, lit_47, lit_48, lit_56, lit_57, lit_59, lit_60, lit_62, lit_63, lit_89, lit_92, lit_96, lit_97, lit_99, lit_100, lit_102, lit_103, lit_104, lit_110, lit_111, lit_115, lit_117, lit_194, lit_200, lit_644, lit_736, lit_999, lit_1000, lit_9999, lit_10000, lit_1000000000, ↓wp_mlet, ↓wp_mbp, ↓wp_ite, ↓wp_mix, ↓wp_mdiv, ↓wp_mnz, ↓wp_some, ↓wp_mbnd, ↓mlet_eq, ↓mbp_eq, ↓mbnd_eq, ↓mix_ite, ↓mdiv_ite, ↓mnz_ite, nI_add, nI_mul, nI_nat, nI_ltE, nI_leE, nI_eqE, nI_eqN, nI_Neq, nI_Nlt, nI_Nle, nI_ltN, nI_leN, ↓reduceIte, ↓Nat.reduceEqDiff, and_f, nt_e, nt_t, nl_t, nl_f, ne_t, ne_f, and_self, or_self, or_true, true_or, or_false, false_or, if_true, if_false, and_true, true_and, and_false, false_and, not_true, not_false_iff]
    · have e1 := Mt_at hm1 (show x < 3 by omega) (show T < 4 by omega)
      have e : E x T = (cf T s t x).val := zz_eq (hbN x T (by omega) (Nat.le_refl T)) (cf T s t x).isLt (by rw [hg2 x (by omega), zz_self])
      refine ⟨mup M1 12 24 x (nI (E x T)), ⟨mm _, fun k hk => ?_⟩, ?_⟩
      · rw [mup_at]
        by_cases r : k = x
        · subst r
          rw [if_pos (by omega), e]
        · rw [if_neg (by omega)]
          exact h1 k (by omega)
      · show f_X8_fit_L65 (nI T) (n + 1) (nI x) M1 kk = _
        rw [f_X8_fit_L65.eq_2]
        simp (disch := omega) only [lit_0, lit_1, lit_2, lit_3, lit_4, lit_5, lit_6, lit_7, lit_8, lit_9, lit_10, lit_11, lit_12, lit_13, lit_14, lit_15, lit_16, lit_20, lit_23, lit_24, lit_31, lit_32, lit_39, lit_43, lit_45, lit_47, lit_48, lit_56, lit_57, lit_59, lit_60, lit_62, lit_63, lit_89, lit_92, lit_96, lit_97, lit_99, lit_100, lit_102, lit_103, lit_104, lit_110, lit_111, lit_115, lit_117, lit_194, lit_200, lit_644, lit_736, lit_999, lit_1000, lit_9999, lit_10000, lit_1000000000, ↓wp_mlet, ↓wp_mbp, ↓wp_ite, ↓wp_mix, ↓wp_mdiv, ↓wp_mnz, ↓wp_some, ↓wp_mbnd, ↓mlet_eq, ↓mbp_eq, ↓mbnd_eq, ↓mix_ite, ↓mdiv_ite, ↓mnz_ite, nI_add, nI_mul, nI_nat, nI_ltE, nI_leE, nI_eqE, nI_eqN, nI_Neq, nI_Nlt, nI_Nle, nI_ltN, nI_leN, ↓reduceIte, ↓Nat.reduceEqDiff, and_f, nt_e, nt_t, nl_t, nl_f, ne_t, ne_f, and_self, or_self, or_true, true_or, or_false, false_or, if_true, if_false, and_true, true_and, and_false, false_and, not_true, not_false_iff, e1]) (fun n M1 kk _ => by
    show f_X8_fit_L65 (nI T) (n + 1) (nI 3) M1 kk = _
    rw [f_X8_fit_L65.eq_2]
    simp (disch := omega) only [lit_0, lit_1, lit_2, lit_3, lit_4, lit_5, lit_6, lit_7, lit_8, lit_9, lit_10, lit_11, lit_12, lit_13, lit_14, lit_15, lit_16, lit_20, lit_23, lit_24, lit_31, lit_32, lit_39, lit_43, lit_45, lit_47, lit_48, lit_56, lit_57, lit_59, lit_60, lit_62, lit_63, lit_89, lit_92, lit_96, lit_97, lit_99, lit_100, lit_102, lit_103, lit_104, lit_110, lit_111, lit_115, lit_117, lit_194, lit_200, lit_644, lit_736, lit_999, lit_1000, lit_9999, lit_10000, lit_1000000000, ↓wp_mlet, ↓wp_mbp, ↓wp_ite, ↓wp_mix, ↓wp_mdiv, ↓wp_mnz, ↓wp_some, ↓wp_mbnd, ↓mlet_eq, ↓mbp_eq, ↓mbnd_eq, ↓mix_ite, ↓mdiv_ite, ↓mnz_ite, nI_add, nI_mul, nI_nat, nI_ltE, nI_leE, nI_eqE, nI_eqN, nI_Neq, nI_Nlt, nI_Nle, nI_ltN, nI_leN, ↓reduceIte, ↓Nat.reduceEqDiff, and_f, nt_e, nt_t, nl_t, nl_f, ne_t, ne_f, and_self, or_self, or_true, true_or, or_false, false_or, if_true, if_false, and_true, true_and, and_false, false_and, not_true, not_false_iff]) 3 N 0 M2 (fun M24 => some ((), M24)) (by omega) (by omega) ⟨hm2, fun k hk => by omega⟩
  rw [k1, k2, k4, wp_some]
  exact ⟨h4, hm4.2⟩
/-! WHO IS ON THE CURVE -/
def onC (T : Nat) (s t : Nat → Nat) (h : Nat) : Bool := decide (thr T s t (h + 1) = s h)
theorem onC_t {T : Nat} {s t : Nat → Nat} {h : Nat} : (onC T s t h = true) = (thr T s t (h + 1) = s h) := by unfold onC; exact propext decide_eq_true_iff
theorem onC_f {T : Nat} {s t : Nat → Nat} {h : Nat} : (onC T s t h = false) = ¬ (thr T s t (h + 1) = s h) := by unfold onC; exact propext decide_eq_false_iff_not
theorem onC_self {T : Nat} {s t : Nat → Nat} (hT : 1 ≤ T ∧ T ≤ 3) (hu : Tu T t) (hs : ∀ k, k < 8 → s k ≤ 96) {i : Nat} (hi : i < T) : onC T s t (t i) = true := by
  rw [onC_t]
  have := hs (t i) (hu.1 i hi)
  refine zz_eq thr_lt (by omega) ?_
  rw [zz_thr]
  exact cf_on hT hu i hi
def cnt (P : Nat → Bool) : Nat → Nat
  | 0 => 0
  | k + 1 => cnt P k + (P k).toNat
theorem cnt_s {P : Nat → Bool} {k : Nat} : cnt P (k + 1) = cnt P k + (P k).toNat := Eq.trans rfl rfl
theorem cnt_le {P : Nat → Bool} : ∀ k, cnt P k ≤ k
  | 0 => Nat.le_refl _
  | k + 1 => by
    have := cnt_le (P := P) k
    have h2 : (P k).toNat ≤ 1 := by cases P k <;> decide
    rw [cnt_s]
    omega
theorem cnt_all {P : Nat → Bool} : ∀ n, cnt P n = n ↔ ∀ k, k < n → P k = true
  | 0 => ⟨fun _ k hk => by omega, fun _ => rfl⟩
  | n + 1 => by
    have ih := cnt_all (P := P) n
    have l := cnt_le (P := P) n
    rw [cnt_s]
    constructor
    · intro h k hk
      have h2 : (P n).toNat ≤ 1 := by cases P n <;> decide
      by_cases q : k = n
      · subst q
        cases e : P k with
        | true => rfl
        | false => rw [e] at h; simp at h; omega
      · exact ih.mp (by omega) k (by omega)
    · intro h
      rw [ih.mpr (fun k hk => h k (by omega)), h n (by omega)]
      rfl
theorem cnt_cg {P Q : Nat → Bool} : ∀ n, (∀ k, k < n → P k = Q k) → cnt P n = cnt Q n
  | 0, _ => rfl
  | n + 1, h => by rw [cnt_s, cnt_s, cnt_cg n (fun k hk => h k (by omega)), h n (by omega)]
theorem cnt_mono {P Q : Nat → Bool} : ∀ n, (∀ k, k < n → P k = true → Q k = true) → cnt P n ≤ cnt Q n
  | 0, _ => Nat.le_refl _
  | n + 1, h => by
    have ih := cnt_mono n (fun k hk => h k (by omega))
    have h2 := h n (by omega)
    have h3 : (P n).toNat ≤ (Q n).toNat := by
      cases e : P n
      · exact Nat.zero_le _
      · rw [h2 e]; exact Nat.le_refl _
    rw [cnt_s, cnt_s]
    omega
/-- all of the first n of t are on the curve through T of them -/
def one (T : Nat) (s t : Nat → Nat) (n : Nat) : Bool := decide (∀ k, k < n → onC T s t (t k) = true)
theorem one_t {T : Nat} {s t : Nat → Nat} {n : Nat} : (one T s t n = true) = (∀ k, k < n → onC T s t (t k) = true) := by unfold one; exact propext decide_eq_true_iff
theorem c_one {M : Mem} {g ga ia T n : Nat} {s t : Nat → Nat} (h : Lk M g ga ia T s t) (hTn : T ≤ n) (hn : n ≤ 8) (hm : ∀ k, k < n → M ga ia k = nI (t k) ∧ t k < 8) : f_X6_isOneCurve g ga ia (nI n) M = some (nI (one T s t n).toNat) := by
  obtain ⟨h3, hT, hs, ht, hu⟩ := id h
  unfold f_X6_isOneCurve
  generalize hN : (1000 : Nat) = N
  simp only [lit_0, lit_1, lit_2, lit_3, lit_4, lit_5, lit_6, lit_7, lit_8, lit_9, lit_10, lit_11, lit_12, lit_13, lit_14, lit_15, lit_16, lit_20, lit_23, lit_24, lit_31, lit_32, lit_39, lit_43, lit_45, lit_47, lit_48, lit_56, lit_57, lit_59, lit_60, lit_62, lit_63, lit_89, lit_92, lit_96, lit_97, lit_99, lit_100, lit_102, lit_103, lit_104, lit_110, lit_111, lit_115, lit_117, lit_194, lit_200, lit_644, lit_736, lit_999, lit_1000, lit_9999, lit_10000, lit_1000000000, mlet_eq, h3]
  have key := floop (β := Int32) (F := fun m x kk => f_X6_isOneCurve_L5 g ga ia (nI n) M m x kk) (c := n) (fun k => !(onC T s t (t k))) (fun _ => nI 0) (fun m k kk hk => by
    show f_X6_isOneCurve_L5 g ga ia (nI n) M (m + 1) (nI k) kk = _
    obtain ⟨e1, lk⟩ := hm k hk
    have e2 := (hs (t k) lk).1
    have e3 := c_thr h (x := t k + 1) (by omega)
    have b1 := (hs (t k) lk).2
    have b2 := thr_lt (T := T) (s := s) (t := t) (x := t k + 1)
    rw [f_X6_isOneCurve_L5.eq_2]
    unfold f_X6_positionOf
    cases e : onC T s t (t k) with
    | true =>
      rw [onC_t] at e
      simp (disch := omega) only [lit_0, lit_1, lit_2, lit_3, lit_4, lit_5, lit_6, lit_7, lit_8, lit_9, lit_10, lit_11, lit_12, lit_13, lit_14, lit_15, lit_16, lit_20, lit_23, lit_24, lit_31, lit_32, lit_39, lit_43, lit_45, lit_47, lit_48, lit_56, lit_57, lit_59, lit_60, lit_62, lit_63, lit_89, lit_92, lit_96, lit_97, lit_99, lit_100, lit_102, lit_103, lit_104, lit_110, lit_111, lit_115, lit_117, lit_194, lit_200, lit_644, lit_736, lit_999, lit_1000, lit_9999, lit_10000, lit_1000000000, ↓wp_mlet, ↓wp_mbp, ↓wp_ite, ↓wp_mix, ↓wp_mdiv, ↓wp_mnz, ↓wp_some, ↓wp_mbnd, ↓mlet_eq, ↓mbp_eq, ↓mbnd_eq, ↓mix_ite, ↓mdiv_ite, ↓mnz_ite, nI_add, nI_mul, nI_nat, nI_ltE, nI_leE, nI_eqE, nI_eqN, nI_Neq, nI_Nlt, nI_Nle, nI_ltN, nI_leN, ↓reduceIte, ↓Nat.reduceEqDiff, and_f, nt_e, nt_t, nl_t, nl_f, ne_t, ne_f, and_self, or_self, or_true, true_or, or_false, false_or, if_true, if_false, and_true, true_and, and_false, false_and, not_true, not_false_iff, e1, e2, e3, toNat_0, Bool.false_and, Bool.true_and, Bool.and_false, Bool.and_true, Bool.false_eq_true, reduceCtorEq, Bool.true_eq_false, Bool.not_true, Bool.not_false]
    | false =>
      rw [onC_f] at e
      simp (disch := omega) only [lit_0, lit_1, lit_2, lit_3, lit_4, lit_5, lit_6, lit_7, lit_8, lit_9, lit_10, lit_11, lit_12, lit_13, lit_14, lit_15, lit_16, lit_20, lit_23, lit_24, lit_31, lit_32, lit_39, lit_43, lit_45, lit_47, lit_48, lit_56, lit_57, lit_59, lit_60, lit_62, lit_63, lit_89, lit_92, lit_96, lit_97, lit_99, lit_100, lit_102, lit_103, lit_104, lit_110, lit_111, lit_115, lit_117, lit_194, lit_200, lit_644, lit_736, lit_999, lit_1000, lit_9999, lit_10000, lit_1000000000, ↓wp_mlet, ↓wp_mbp, ↓wp_ite, ↓wp_mix, ↓wp_mdiv, ↓wp_mnz, ↓wp_some, ↓wp_mbnd, ↓mlet_eq, ↓mbp_eq, ↓mbnd_eq, ↓mix_ite, ↓mdiv_ite, ↓mnz_ite, nI_add, nI_mul, nI_nat, nI_ltE, nI_leE, nI_eqE, nI_eqN, nI_Neq, nI_Nlt, nI_Nle, nI_ltN, nI_leN, ↓reduceIte, ↓Nat.reduceEqDiff, and_f, nt_e, nt_t, nl_t, nl_f, ne_t, ne_f, and_self, or_self, or_true, true_or, or_false, false_or, if_true, if_false, and_true, true_and, and_false, false_and, not_true, not_false_iff, e1, e2, e3, toNat_0, Bool.false_and, Bool.true_and, Bool.and_false, Bool.and_true, Bool.false_eq_true, reduceCtorEq, Bool.true_eq_false, Bool.not_true, Bool.not_false]) (fun m kk => by
    show f_X6_isOneCurve_L5 g ga ia (nI n) M (m + 1) (nI n) kk = _
    rw [f_X6_isOneCurve_L5.eq_2]
    simp (disch := omega) only [lit_0, lit_1, lit_2, lit_3, lit_4, lit_5, lit_6, lit_7, lit_8, lit_9, lit_10, lit_11, lit_12, lit_13, lit_14, lit_15, lit_16, lit_20, lit_23, lit_24, lit_31, lit_32, lit_39, lit_43, lit_45, lit_47, lit_48, lit_56, lit_57, lit_59, lit_60, lit_62, lit_63, lit_89, lit_92, lit_96, lit_97, lit_99, lit_100, lit_102, lit_103, lit_104, lit_110, lit_111, lit_115, lit_117, lit_194, lit_200, lit_644, lit_736, lit_999, lit_1000, lit_9999, lit_10000, lit_1000000000, ↓wp_mlet, ↓wp_mbp, ↓wp_ite, ↓wp_mix, ↓wp_mdiv, ↓wp_mnz, ↓wp_some, ↓wp_mbnd, ↓mlet_eq, ↓mbp_eq, ↓mbnd_eq, ↓mix_ite, ↓mdiv_ite, ↓mnz_ite, nI_add, nI_mul, nI_nat, nI_ltE, nI_leE, nI_eqE, nI_eqN, nI_Neq, nI_Nlt, nI_Nle, nI_ltN, nI_leN, ↓reduceIte, ↓Nat.reduceEqDiff, and_f, nt_e, nt_t, nl_t, nl_f, ne_t, ne_f, and_self, or_self, or_true, true_or, or_false, false_or, if_true, if_false, and_true, true_and, and_false, false_and, not_true, not_false_iff]) (n - T) N T (fun _ => some (nI 1)) (by omega) (by omega)
  rw [key]
  cases e : fnd (fun k => !(onC T s t (t k))) T (n - T) with
  | some r =>
    obtain ⟨r1, r2, r3, -⟩ := fnd_some e
    have : one T s t n = false := by
      cases q : one T s t n with
      | false => rfl
      | true =>
        rw [one_t] at q
        rw [q r (by omega)] at r3
        cases r3
    rw [this]
    rfl
  | none =>
    have h1 := fnd_none e
    have : one T s t n = true := by
      rw [one_t]
      intro k hk
      by_cases q : k < T
      · exact onC_self hT hu (fun k hk => (hs k hk).2) q
      · have := h1 k (by omega) (by omega)
        simpa using this
    rw [this]
    rfl
theorem c_oneS {M : Mem} {g ga ia T n : Nat} (h3 : M g 1 3 = nI T) (hT : T ≤ 3) (hn : n ≤ T) : f_X6_isOneCurve g ga ia (nI n) M = some (nI 1) := by
  unfold f_X6_isOneCurve
  simp only [lit_0, lit_1, lit_2, lit_3, lit_4, lit_5, lit_6, lit_7, lit_8, lit_9, lit_10, lit_11, lit_12, lit_13, lit_14, lit_15, lit_16, lit_20, lit_23, lit_24, lit_31, lit_32, lit_39, lit_43, lit_45, lit_47, lit_48, lit_56, lit_57, lit_59, lit_60, lit_62, lit_63, lit_89, lit_92, lit_96, lit_97, lit_99, lit_100, lit_102, lit_103, lit_104, lit_110, lit_111, lit_115, lit_117, lit_194, lit_200, lit_644, lit_736, lit_999, lit_1000, lit_9999, lit_10000, lit_1000000000, mlet_eq, h3]
  rw [f_X6_isOneCurve_L5.eq_2]
  simp (disch := omega) only [lit_0, lit_1, lit_2, lit_3, lit_4, lit_5, lit_6, lit_7, lit_8, lit_9, lit_10, lit_11, lit_12, lit_13, lit_14, lit_15, lit_16, lit_20, lit_23, lit_24, lit_31, lit_32, lit_39, lit_43, lit_45, lit_47, lit_48, lit_56, lit_57, lit_59, lit_60, lit_62, lit_63, lit_89, lit_92, lit_96, lit_97, lit_99, lit_100, lit_102, lit_103, lit_104, lit_110, lit_111, lit_115, lit_117, lit_194, lit_200, lit_644, lit_736, lit_999, lit_1000, lit_9999, lit_10000, lit_1000000000, ↓wp_mlet, ↓wp_mbp, ↓wp_ite, ↓wp_mix, ↓wp_mdiv, ↓wp_mnz, ↓wp_some, ↓wp_mbnd, ↓mlet_eq, ↓mbp_eq, ↓mbnd_eq, ↓mix_ite, ↓mdiv_ite, ↓mnz_ite, nI_add, nI_mul, nI_nat, nI_ltE, nI_leE, nI_eqE, nI_eqN, nI_Neq, nI_Nlt, nI_Nle, nI_ltN, nI_leN, ↓reduceIte, ↓Nat.reduceEqDiff, and_f, nt_e, nt_t, nl_t, nl_f, ne_t, ne_f, and_self, or_self, or_true, true_or, or_false, false_or, if_true, if_false, and_true, true_and, and_false, false_and, not_true, not_false_iff]
/-- how many keys are on the curve in 12 24 -/
theorem c_count {M : Mem} {g T n : Nat} {s t ky : Nat → Nat} (h5 : M g 1 5 = nI n) (hn : n ≤ 8) (hk : ∀ k, k < n → M g 4 k = nI (ky k) ∧ ky k < 8) (hs : ∀ k, k < 8 → M g 2 k = nI (s k) ∧ s k ≤ 96) (hc : ∀ k, k < 3 → M 12 24 k = nI (cf T s t k).val) : f_X8_countOnCurve g M = some (nI (cnt (fun k => onC T s t (ky k)) n)) := by
  unfold f_X8_countOnCurve
  generalize hN : (1000 : Nat) = N
  have key := mloop (F := fun m x s kk => f_X8_countOnCurve_L4 g M m s x kk) (c := n) (fun x => nI (cnt (fun k => onC T s t (ky k)) x)) (fun m x kk hx => by
    show f_X8_countOnCurve_L4 g M (m + 1) (nI (cnt (fun k => onC T s t (ky k)) x)) (nI x) kk = f_X8_countOnCurve_L4 g M m (nI (cnt (fun k => onC T s t (ky k)) (x + 1))) (nI (x + 1)) kk
    obtain ⟨e1, l1⟩ := hk x hx
    obtain ⟨e2, l2⟩ := hs (ky x) l1
    have lc := fun k => (cf T s t k).isLt
    have l0 := lc 0
    have l1' := lc 1
    have l2' := lc 2
    have e3 := c_valueOn (x := ky x + 1) (hc 0 (by decide)) (hc 1 (by decide)) (hc 2 (by decide)) (by omega) (by omega) (by omega) (by omega)
    have e4 : (((cf T s t 2).val * (ky x + 1) + (cf T s t 1).val) % 97 * (ky x + 1) + (cf T s t 0).val) % 97 = thr T s t (ky x + 1) := by
      refine zz_eq (Nat.mod_lt _ (by decide)) thr_lt ?_
      rw [zz_thr, zz_mod, zz_add, zz_mul, zz_mod, zz_add, zz_mul, zz_self, zz_self, zz_self]
      unfold ev
      generalize cf T s t 0 = a
      generalize cf T s t 1 = b
      generalize cf T s t 2 = c
      generalize zz (ky x + 1) = d
      clear e1 l1 e2 l2 lc l0 l1' l2' e3
      grobner
    rw [e4] at e3
    have lt := thr_lt (T := T) (s := s) (t := t) (x := ky x + 1)
    have lx := cnt_le (P := fun k => onC T s t (ky k)) x
    rw [f_X8_countOnCurve_L4.eq_2, cnt_s]
    unfold f_X6_positionOf
    generalize cnt (fun k => onC T s t (ky k)) x = cx at lx ⊢
    by_cases q : thr T s t (ky x + 1) = s (ky x)
    · have e5 : onC T s t (ky x) = true := by rw [onC_t]; exact q
      simp (disch := omega) only [lit_0, lit_1, lit_2, lit_3, lit_4, lit_5, lit_6, lit_7, lit_8, lit_9, lit_10, lit_11, lit_12, lit_13, lit_14, lit_15, lit_16, lit_20, lit_23, lit_24, lit_31, lit_32, lit_39, lit_43, lit_45, lit_47, lit_48, lit_56, lit_57, lit_59, lit_60, lit_62, lit_63, lit_89, lit_92, lit_96, lit_97, lit_99, lit_100, lit_102, lit_103, lit_104, lit_110, lit_111, lit_115, lit_117, lit_194, lit_200, lit_644, lit_736, lit_999, lit_1000, lit_9999, lit_10000, lit_1000000000, ↓wp_mlet, ↓wp_mbp, ↓wp_ite, ↓wp_mix, ↓wp_mdiv, ↓wp_mnz, ↓wp_some, ↓wp_mbnd, ↓mlet_eq, ↓mbp_eq, ↓mbnd_eq, ↓mix_ite, ↓mdiv_ite, ↓mnz_ite, nI_add, nI_mul, nI_nat, nI_ltE, nI_leE, nI_eqE, nI_eqN, nI_Neq, nI_Nlt, nI_Nle, nI_ltN, nI_leN, ↓reduceIte, ↓Nat.reduceEqDiff, and_f, nt_e, nt_t, nl_t, nl_f, ne_t, ne_f, and_self, or_self, or_true, true_or, or_false, false_or, if_true, if_false, and_true, true_and, and_false, false_and, not_true, not_false_iff, e1, e2, e3, e5, h5, Bool.toNat_true]
    · have e5 : onC T s t (ky x) = false := by rw [onC_f]; exact q
      simp (disch := omega) only [lit_0, lit_1, lit_2, lit_3, lit_4, lit_5, lit_6, lit_7, lit_8, lit_9, lit_10, lit_11, lit_12, lit_13, lit_14, lit_15, lit_16, lit_20, lit_23, lit_24, lit_31, lit_32, lit_39, lit_43, lit_45, lit_47, lit_48, lit_56, lit_57, lit_59, lit_60, lit_62, lit_63, lit_89, lit_92, lit_96, lit_97, lit_99, lit_100, lit_102, lit_103, lit_104, lit_110, lit_111, lit_115, lit_117, lit_194, lit_200, lit_644, lit_736, lit_999, lit_1000, lit_9999, lit_10000, lit_1000000000, ↓wp_mlet, ↓wp_mbp, ↓wp_ite, ↓wp_mix, ↓wp_mdiv, ↓wp_mnz, ↓wp_some, ↓wp_mbnd, ↓mlet_eq, ↓mbp_eq, ↓mbnd_eq, ↓mix_ite, ↓mdiv_ite, ↓mnz_ite, nI_add, nI_mul, nI_nat, nI_ltE, nI_leE, nI_eqE, nI_eqN, nI_Neq, nI_Nlt, nI_Nle, nI_ltN, nI_leN, ↓reduceIte, ↓Nat.reduceEqDiff, and_f, nt_e, nt_t, nl_t, nl_f, ne_t, ne_f, and_self, or_self, or_true, true_or, or_false, false_or, if_true, if_false, and_true, true_and, and_false, false_and, not_true, not_false_iff, e1, e2, e3, e5, h5, Bool.toNat_false, Nat.add_zero]) (fun m kk => by
    show f_X8_countOnCurve_L4 g M (m + 1) (nI (cnt (fun k => onC T s t (ky k)) n)) (nI n) kk = _
    rw [f_X8_countOnCurve_L4.eq_2]
    simp (disch := omega) only [lit_0, lit_1, lit_2, lit_3, lit_4, lit_5, lit_6, lit_7, lit_8, lit_9, lit_10, lit_11, lit_12, lit_13, lit_14, lit_15, lit_16, lit_20, lit_23, lit_24, lit_31, lit_32, lit_39, lit_43, lit_45, lit_47, lit_48, lit_56, lit_57, lit_59, lit_60, lit_62, lit_63, lit_89, lit_92, lit_96, lit_97, lit_99, lit_100, lit_102, lit_103, lit_104, lit_110, lit_111, lit_115, lit_117, lit_194, lit_200, lit_644, lit_736, lit_999, lit_1000, lit_9999, lit_10000, lit_1000000000, ↓wp_mlet, ↓wp_mbp, ↓wp_ite, ↓wp_mix, ↓wp_mdiv, ↓wp_mnz, ↓wp_some, ↓wp_mbnd, ↓mlet_eq, ↓mbp_eq, ↓mbnd_eq, ↓mix_ite, ↓mdiv_ite, ↓mnz_ite, nI_add, nI_mul, nI_nat, nI_ltE, nI_leE, nI_eqE, nI_eqN, nI_Neq, nI_Nlt, nI_Nle, nI_ltN, nI_leN, ↓reduceIte, ↓Nat.reduceEqDiff, and_f, nt_e, nt_t, nl_t, nl_f, ne_t, ne_f, and_self, or_self, or_true, true_or, or_false, false_or, if_true, if_false, and_true, true_and, and_false, false_and, not_true, not_false_iff, h5]) n N 0 (fun x => some x) (by omega) (by omega)
  exact key
/-- the model's count -/
theorem m_onIt {M : Mem} {T n : Nat} {s t ky : Nat → Nat} (h : Lm M T s t) (h9 : M 12 48 9 = nI n) (hn : n ≤ 8) (hk : ∀ k, k < n → M 12 48 (23 + k) = nI (ky k) ∧ ky k < 8) : f_X12_onIt M = some (nI (cnt (fun k => onC T s t (ky k)) n)) := by
  obtain ⟨h3, hT, hs, ht, hu⟩ := id h
  unfold f_X12_onIt
  generalize hN : (1000 : Nat) = N
  have key := mloop (F := fun m x s kk => f_X12_onIt_L4 M m s x kk) (c := n) (fun x => nI (cnt (fun k => onC T s t (ky k)) x)) (fun m x kk hx => by
    show f_X12_onIt_L4 M (m + 1) (nI (cnt (fun k => onC T s t (ky k)) x)) (nI x) kk = f_X12_onIt_L4 M m (nI (cnt (fun k => onC T s t (ky k)) (x + 1))) (nI (x + 1)) kk
    obtain ⟨e1, l1⟩ := hk x hx
    obtain ⟨e2, l2⟩ := hs (ky x) l1
    have e3 := m_thr h (x := ky x + 1) (by omega)
    have lt := thr_lt (T := T) (s := s) (t := t) (x := ky x + 1)
    have lx := cnt_le (P := fun k => onC T s t (ky k)) x
    rw [f_X12_onIt_L4.eq_2, cnt_s]
    generalize cnt (fun k => onC T s t (ky k)) x = cx at lx ⊢
    by_cases q : thr T s t (ky x + 1) = s (ky x)
    · have e5 : onC T s t (ky x) = true := by rw [onC_t]; exact q
      simp (disch := omega) only [lit_0, lit_1, lit_2, lit_3, lit_4, lit_5, lit_6, lit_7, lit_8, lit_9, lit_10, lit_11, lit_12, lit_13, lit_14, lit_15, lit_16, lit_20, lit_23, lit_24, lit_31, lit_32, lit_39, lit_43, lit_45, lit_47, lit_48, lit_56, lit_57, lit_59, lit_60, lit_62, lit_63, lit_89, lit_92, lit_96, lit_97, lit_99, lit_100, lit_102, lit_103, lit_104, lit_110, lit_111, lit_115, lit_117, lit_194, lit_200, lit_644, lit_736, lit_999, lit_1000, lit_9999, lit_10000, lit_1000000000, ↓wp_mlet, ↓wp_mbp, ↓wp_ite, ↓wp_mix, ↓wp_mdiv, ↓wp_mnz, ↓wp_some, ↓wp_mbnd, ↓mlet_eq, ↓mbp_eq, ↓mbnd_eq, ↓mix_ite, ↓mdiv_ite, ↓mnz_ite, nI_add, nI_mul, nI_nat, nI_ltE, nI_leE, nI_eqE, nI_eqN, nI_Neq, nI_Nlt, nI_Nle, nI_ltN, nI_leN, ↓reduceIte, ↓Nat.reduceEqDiff, and_f, nt_e, nt_t, nl_t, nl_f, ne_t, ne_f, and_self, or_self, or_true, true_or, or_false, false_or, if_true, if_false, and_true, true_and, and_false, false_and, not_true, not_false_iff, h9, e1, e2, e3, e5, Bool.toNat_true]
    · have e5 : onC T s t (ky x) = false := by rw [onC_f]; exact q
      simp (disch := omega) only [lit_0, lit_1, lit_2, lit_3, lit_4, lit_5, lit_6, lit_7, lit_8, lit_9, lit_10, lit_11, lit_12, lit_13, lit_14, lit_15, lit_16, lit_20, lit_23, lit_24, lit_31, lit_32, lit_39, lit_43, lit_45, lit_47, lit_48, lit_56, lit_57, lit_59, lit_60, lit_62, lit_63, lit_89, lit_92, lit_96, lit_97, lit_99, lit_100, lit_102, lit_103, lit_104, lit_110, lit_111, lit_115, lit_117, lit_194, lit_200, lit_644, lit_736, lit_999, lit_1000, lit_9999, lit_10000, lit_1000000000, ↓wp_mlet, ↓wp_mbp, ↓wp_ite, ↓wp_mix, ↓wp_mdiv, ↓wp_mnz, ↓wp_some, ↓wp_mbnd, ↓mlet_eq, ↓mbp_eq, ↓mbnd_eq, ↓mix_ite, ↓mdiv_ite, ↓mnz_ite, nI_add, nI_mul, nI_nat, nI_ltE, nI_leE, nI_eqE, nI_eqN, nI_Neq, nI_Nlt, nI_Nle, nI_ltN, nI_leN, ↓reduceIte, ↓Nat.reduceEqDiff, and_f, nt_e, nt_t, nl_t, nl_f, ne_t, ne_f, and_self, or_self, or_true, true_or, or_false, false_or, if_true, if_false, and_true, true_and, and_false, false_and, not_true, not_false_iff, h9, e1, e2, e3, e5, Bool.toNat_false, Nat.add_zero]) (fun m kk => by
    show f_X12_onIt_L4 M (m + 1) (nI (cnt (fun k => onC T s t (ky k)) n)) (nI n) kk = _
    rw [f_X12_onIt_L4.eq_2]
    simp (disch := omega) only [lit_0, lit_1, lit_2, lit_3, lit_4, lit_5, lit_6, lit_7, lit_8, lit_9, lit_10, lit_11, lit_12, lit_13, lit_14, lit_15, lit_16, lit_20, lit_23, lit_24, lit_31, lit_32, lit_39, lit_43, lit_45, lit_47, lit_48, lit_56, lit_57, lit_59, lit_60, lit_62, lit_63, lit_89, lit_92, lit_96, lit_97, lit_99, lit_100, lit_102, lit_103, lit_104, lit_110, lit_111, lit_115, lit_117, lit_194, lit_200, lit_644, lit_736, lit_999, lit_1000, lit_9999, lit_10000, lit_1000000000, ↓wp_mlet, ↓wp_mbp, ↓wp_ite, ↓wp_mix, ↓wp_mdiv, ↓wp_mnz, ↓wp_some, ↓wp_mbnd, ↓mlet_eq, ↓mbp_eq, ↓mbnd_eq, ↓mix_ite, ↓mdiv_ite, ↓mnz_ite, nI_add, nI_mul, nI_nat, nI_ltE, nI_leE, nI_eqE, nI_eqN, nI_Neq, nI_Nlt, nI_Nle, nI_ltN, nI_leN, ↓reduceIte, ↓Nat.reduceEqDiff, and_f, nt_e, nt_t, nl_t, nl_f, ne_t, ne_f, and_self, or_self, or_true, true_or, or_false, false_or, if_true, if_false, and_true, true_and, and_false, false_and, not_true, not_false_iff, h9]) n N 0 (fun x => some x) (by omega) (by omega)
  exact key
theorem Rel_w0 {n : Nat} {M M2 : Mem} (h : Rel n M) (h1 : ∀ i, i ≠ 0 → M2 12 47 i = M 12 47 i) (h2 : ∀ a b, ¬ (a = 11 ∨ a = 12 ∧ (b = 47 ∨ b = 52 ∨ b = 56 ∨ 21 ≤ b ∧ b ≤ 25)) → M2 a b = M a b) : Rel n M2 := by
  obtain ⟨α, αh, αs, K, nx, fed, b, H, hR, hS, hH, hs, ⟨hr1, hr2, hr3, hr4⟩, hi, hih, his, hb⟩ := h
  refine ⟨α, αh, αs, K, nx, fed, b, H, ?_, ?_, ?_, ?_, ⟨?_, ?_, ?_, ?_⟩, hi, hih, his, hb⟩
  · rw [show M2 0 = M 0 from funext fun b => h2 0 b (by omega)]; exact hR
  · rw [h2 12 48 (by decide)]; exact hS
  · exact Hs_same hH (h2 12 17 (by decide)) (h1 6 (by decide)) (h2 12 51 (by decide)) (fun a _ _ _ => funext fun b => h2 a b (by omega))
  · exact Rs_same hs (by rw [h2 12 16 (by decide)]) (h1 7 (by decide)) (funext fun b => h2 10 b (by omega)) (h2 12 50 (by decide))
  · exact Rr_same hr1 (fun i _ _ => by rw [h2 12 16 (by decide)]) (fun i _ _ => h1 i (by omega))
  · exact Re_same hr2 (by rw [h2 12 16 (by decide)]) (h1 14 (by decide))
  · exact Ri_same hr3 (by rw [h2 12 26 (by decide)]) (h1 12 (by decide)) (h2 12 27 (by decide)) (h2 12 53 (by decide))
  · exact Ro_same hr4 (h2 12 45 (by decide)) (h1 13 (by decide)) (h2 12 46 (by decide)) (h2 12 55 (by decide))
theorem Rel.up {n : Nat} {M : Mem} (h : Rel n M) : Rel (n + 1) M := by
  obtain ⟨α, αh, αs, K, nx, fed, b, H, hR, hS, hH, hs, hx, hi, hih, his, hb⟩ := h
  exact ⟨α, αh, αs, K, nx, fed, b, H, hR, hS, hH, hs, hx, hi, hih, his, by omega⟩
theorem Rel_w {n : Nat} {M M2 : Mem} (h : Rel n M) (h1 : ∀ i, i ≠ 0 → M2 12 47 i = M 12 47 i) (h2 : ∀ a b, ¬ (a = 11 ∨ a = 12 ∧ (b = 47 ∨ b = 52 ∨ b = 56 ∨ 21 ≤ b ∧ b ≤ 25)) → M2 a b = M a b) : Rel (n + 1) M2 := (Rel_w0 h h1 h2).up
def sh (α : Sp) (k : Nat) : Nat := α (15 + k)
def ky (α : Sp) (k : Nat) : Nat := α (23 + k)
theorem ky_tu {H T : Nat} {α : Sp} (hi : Inv H α) (h : T ≤ α 9) : Tu T (ky α) := by
  obtain ⟨⟨b0, b1, b2, b3, b4, b5, b6, b7, b8, b9, b10, b11, b14⟩, i1, i2, bs, bk, bn, bz, bt, bg, bl⟩ := hi
  refine ⟨fun i hi => ?_, fun i j h1 h2 => bn i j h1 (by omega)⟩
  have := bk i (by omega)
  show α (23 + i) < 8
  omega
/-- enough keys -/
def en (α : Sp) : Prop := α 1 = 1 ∧ α 5 ≤ α 9
theorem Lk0 {M : Mem} {H : Nat} {α : Sp} (hk : Rk (M 0) α) (hi : Inv H α) (he : en α) : Lk M 0 0 4 (α 5) (sh α) (ky α) := by
  have hu := ky_tu hi he.2
  obtain ⟨h1, h2, h3, h4, h5, h6, h7⟩ := hk
  obtain ⟨⟨b0, b1, b2, b3, b4, b5, b6, b7, b8, b9, b10, b11, b14⟩, i1, i2, bs, bk, bn, bz, bt, bg, bl⟩ := hi
  have q := i2 he.1
  exact ⟨h3, ⟨q, b5⟩, fun k hk => ⟨h5 k hk, bs k hk⟩, fun i hi => h7 i (by have := he.2; omega) (by have := he.2; omega), hu⟩
theorem c_enough {M : Mem} {H : Nat} {α : Sp} (hk : Rk (M 0) α) (hi : Inv H α) : (en α → f_X6_areEnough 0 M = some (nI 1)) ∧ (¬ en α → f_X6_areEnough 0 M = some (nI 0)) := by
  obtain ⟨h1, h2, h3, h4, h5, h6, h7⟩ := hk
  obtain ⟨⟨b0, b1, b2, b3, b4, b5, b6, b7, b8, b9, b10, b11, b14⟩, i1, i2, bs, bk, bn, bz, bt, bg, bl⟩ := hi
  unfold f_X6_areEnough en
  refine ⟨fun h => ?_, fun h => ?_⟩
  · simp (disch := omega) only [lit_0, lit_1, lit_2, lit_3, lit_4, lit_5, lit_6, lit_7, lit_8, lit_9, lit_10, lit_11, lit_12, lit_13, lit_14, lit_15, lit_16, lit_20, lit_23, lit_24, lit_31, lit_32, lit_39, lit_43, lit_45, lit_47, lit_48, lit_56, lit_57, lit_59, lit_60, lit_62, lit_63, lit_89, lit_92, lit_96, lit_97, lit_99, lit_100, lit_102, lit_103, lit_104, lit_110, lit_111, lit_115, lit_117, lit_194, lit_200, lit_644, lit_736, lit_999, lit_1000, lit_9999, lit_10000, lit_1000000000, ↓wp_mlet, ↓wp_mbp, ↓wp_ite, ↓wp_mix, ↓wp_mdiv, ↓wp_mnz, ↓wp_some, ↓wp_mbnd, ↓mlet_eq, ↓mbp_eq, ↓mbnd_eq, ↓mix_ite, ↓mdiv_ite, ↓mnz_ite, nI_add, nI_mul, nI_nat, nI_ltE, nI_leE, nI_eqE, nI_eqN, nI_Neq, nI_Nlt, nI_Nle, nI_ltN, nI_leN, ↓reduceIte, ↓Nat.reduceEqDiff, and_f, nt_e, nt_t, nl_t, nl_f, ne_t, ne_f, and_self, or_self, or_true, true_or, or_false, false_or, if_true, if_false, and_true, true_and, and_false, false_and, not_true, not_false_iff, h2, h3, h4]
  · by_cases q : α 1 = 0
    · simp (disch := omega) only [lit_0, lit_1, lit_2, lit_3, lit_4, lit_5, lit_6, lit_7, lit_8, lit_9, lit_10, lit_11, lit_12, lit_13, lit_14, lit_15, lit_16, lit_20, lit_23, lit_24, lit_31, lit_32, lit_39, lit_43, lit_45, lit_47, lit_48, lit_56, lit_57, lit_59, lit_60, lit_62, lit_63, lit_89, lit_92, lit_96, lit_97, lit_99, lit_100, lit_102, lit_103, lit_104, lit_110, lit_111, lit_115, lit_117, lit_194, lit_200, lit_644, lit_736, lit_999, lit_1000, lit_9999, lit_10000, lit_1000000000, ↓wp_mlet, ↓wp_mbp, ↓wp_ite, ↓wp_mix, ↓wp_mdiv, ↓wp_mnz, ↓wp_some, ↓wp_mbnd, ↓mlet_eq, ↓mbp_eq, ↓mbnd_eq, ↓mix_ite, ↓mdiv_ite, ↓mnz_ite, nI_add, nI_mul, nI_nat, nI_ltE, nI_leE, nI_eqE, nI_eqN, nI_Neq, nI_Nlt, nI_Nle, nI_ltN, nI_leN, ↓reduceIte, ↓Nat.reduceEqDiff, and_f, nt_e, nt_t, nl_t, nl_f, ne_t, ne_f, and_self, or_self, or_true, true_or, or_false, false_or, if_true, if_false, and_true, true_and, and_false, false_and, not_true, not_false_iff, h2, h3, h4, q]
    · simp (disch := omega) only [lit_0, lit_1, lit_2, lit_3, lit_4, lit_5, lit_6, lit_7, lit_8, lit_9, lit_10, lit_11, lit_12, lit_13, lit_14, lit_15, lit_16, lit_20, lit_23, lit_24, lit_31, lit_32, lit_39, lit_43, lit_45, lit_47, lit_48, lit_56, lit_57, lit_59, lit_60, lit_62, lit_63, lit_89, lit_92, lit_96, lit_97, lit_99, lit_100, lit_102, lit_103, lit_104, lit_110, lit_111, lit_115, lit_117, lit_194, lit_200, lit_644, lit_736, lit_999, lit_1000, lit_9999, lit_10000, lit_1000000000, ↓wp_mlet, ↓wp_mbp, ↓wp_ite, ↓wp_mix, ↓wp_mdiv, ↓wp_mnz, ↓wp_some, ↓wp_mbnd, ↓mlet_eq, ↓mbp_eq, ↓mbnd_eq, ↓mix_ite, ↓mdiv_ite, ↓mnz_ite, nI_add, nI_mul, nI_nat, nI_ltE, nI_leE, nI_eqE, nI_eqN, nI_Neq, nI_Nlt, nI_Nle, nI_ltN, nI_leN, ↓reduceIte, ↓Nat.reduceEqDiff, and_f, nt_e, nt_t, nl_t, nl_f, ne_t, ne_f, and_self, or_self, or_true, true_or, or_false, false_or, if_true, if_false, and_true, true_and, and_false, false_and, not_true, not_false_iff, h2, h3, h4]
theorem c_require {M : Mem} {H : Nat} {α : Sp} (hk : Rk (M 0) α) (hi : Inv H α) : (en α → f_X11_requireEnoughKeys M = some (.inr ())) ∧ (¬ en α → f_X11_requireEnoughKeys M = some (.inl 4)) := by
  obtain ⟨h1, h2⟩ := c_enough hk hi
  unfold f_X11_requireEnoughKeys
  refine ⟨fun h => ?_, fun h => ?_⟩
  · rw [h1 h]
    simp (disch := omega) only [lit_0, lit_1, lit_2, lit_3, lit_4, lit_5, lit_6, lit_7, lit_8, lit_9, lit_10, lit_11, lit_12, lit_13, lit_14, lit_15, lit_16, lit_20, lit_23, lit_24, lit_31, lit_32, lit_39, lit_43, lit_45, lit_47, lit_48, lit_56, lit_57, lit_59, lit_60, lit_62, lit_63, lit_89, lit_92, lit_96, lit_97, lit_99, lit_100, lit_102, lit_103, lit_104, lit_110, lit_111, lit_115, lit_117, lit_194, lit_200, lit_644, lit_736, lit_999, lit_1000, lit_9999, lit_10000, lit_1000000000, ↓wp_mlet, ↓wp_mbp, ↓wp_ite, ↓wp_mix, ↓wp_mdiv, ↓wp_mnz, ↓wp_some, ↓wp_mbnd, ↓mlet_eq, ↓mbp_eq, ↓mbnd_eq, ↓mix_ite, ↓mdiv_ite, ↓mnz_ite, nI_add, nI_mul, nI_nat, nI_ltE, nI_leE, nI_eqE, nI_eqN, nI_Neq, nI_Nlt, nI_Nle, nI_ltN, nI_leN, ↓reduceIte, ↓Nat.reduceEqDiff, and_f, nt_e, nt_t, nl_t, nl_f, ne_t, ne_f, and_self, or_self, or_true, true_or, or_false, false_or, if_true, if_false, and_true, true_and, and_false, false_and, not_true, not_false_iff]
  · rw [h2 h]
    simp (disch := omega) only [lit_0, lit_1, lit_2, lit_3, lit_4, lit_5, lit_6, lit_7, lit_8, lit_9, lit_10, lit_11, lit_12, lit_13, lit_14, lit_15, lit_16, lit_20, lit_23, lit_24, lit_31, lit_32, lit_39, lit_43, lit_45, lit_47, lit_48, lit_56, lit_57, lit_59, lit_60, lit_62, lit_63, lit_89, lit_92, lit_96, lit_97, lit_99, lit_100, lit_102, lit_103, lit_104, lit_110, lit_111, lit_115, lit_117, lit_194, lit_200, lit_644, lit_736, lit_999, lit_1000, lit_9999, lit_10000, lit_1000000000, ↓wp_mlet, ↓wp_mbp, ↓wp_ite, ↓wp_mix, ↓wp_mdiv, ↓wp_mnz, ↓wp_some, ↓wp_mbnd, ↓mlet_eq, ↓mbp_eq, ↓mbnd_eq, ↓mix_ite, ↓mdiv_ite, ↓mnz_ite, nI_add, nI_mul, nI_nat, nI_ltE, nI_leE, nI_eqE, nI_eqN, nI_Neq, nI_Nlt, nI_Nle, nI_ltN, nI_leN, ↓reduceIte, ↓Nat.reduceEqDiff, and_f, nt_e, nt_t, nl_t, nl_f, ne_t, ne_f, and_self, or_self, or_true, true_or, or_false, false_or, if_true, if_false, and_true, true_and, and_false, false_and, not_true, not_false_iff]
theorem m_enough {M : Mem} {H : Nat} {α : Sp} (hS : M 12 48 = enc α) (hi : Inv H α) : (en α → f_X12_areEnough M = some (nI 1, mup M 12 47 0 (nI 0))) ∧ (¬ en α → f_X12_areEnough M = some (nI 0, mup M 12 47 0 (nI 1))) := by
  obtain ⟨⟨b0, b1, b2, b3, b4, b5, b6, b7, b8, b9, b10, b11, b14⟩, i1, i2, bs, bk, bn, bz, bt, bg, bl⟩ := hi
  have t0 : ∀ x, (mup M 12 47 0 x) 12 47 0 = x := fun x => thr0
  unfold f_X12_areEnough en
  refine ⟨fun h => ?_, fun h => ?_⟩
  · simp (disch := omega) only [lit_0, lit_1, lit_2, lit_3, lit_4, lit_5, lit_6, lit_7, lit_8, lit_9, lit_10, lit_11, lit_12, lit_13, lit_14, lit_15, lit_16, lit_20, lit_23, lit_24, lit_31, lit_32, lit_39, lit_43, lit_45, lit_47, lit_48, lit_56, lit_57, lit_59, lit_60, lit_62, lit_63, lit_89, lit_92, lit_96, lit_97, lit_99, lit_100, lit_102, lit_103, lit_104, lit_110, lit_111, lit_115, lit_117, lit_194, lit_200, lit_644, lit_736, lit_999, lit_1000, lit_9999, lit_10000, lit_1000000000, ↓wp_mlet, ↓wp_mbp, ↓wp_ite, ↓wp_mix, ↓wp_mdiv, ↓wp_mnz, ↓wp_some, ↓wp_mbnd, ↓mlet_eq, ↓mbp_eq, ↓mbnd_eq, ↓mix_ite, ↓mdiv_ite, ↓mnz_ite, nI_add, nI_mul, nI_nat, nI_ltE, nI_leE, nI_eqE, nI_eqN, nI_Neq, nI_Nlt, nI_Nle, nI_ltN, nI_leN, ↓reduceIte, ↓Nat.reduceEqDiff, and_f, nt_e, nt_t, nl_t, nl_f, ne_t, ne_f, and_self, or_self, or_true, true_or, or_false, false_or, if_true, if_false, and_true, true_and, and_false, false_and, not_true, not_false_iff, ms_n hS, t0]
  · by_cases q : α 1 = 1
    · simp (disch := omega) only [lit_0, lit_1, lit_2, lit_3, lit_4, lit_5, lit_6, lit_7, lit_8, lit_9, lit_10, lit_11, lit_12, lit_13, lit_14, lit_15, lit_16, lit_20, lit_23, lit_24, lit_31, lit_32, lit_39, lit_43, lit_45, lit_47, lit_48, lit_56, lit_57, lit_59, lit_60, lit_62, lit_63, lit_89, lit_92, lit_96, lit_97, lit_99, lit_100, lit_102, lit_103, lit_104, lit_110, lit_111, lit_115, lit_117, lit_194, lit_200, lit_644, lit_736, lit_999, lit_1000, lit_9999, lit_10000, lit_1000000000, ↓wp_mlet, ↓wp_mbp, ↓wp_ite, ↓wp_mix, ↓wp_mdiv, ↓wp_mnz, ↓wp_some, ↓wp_mbnd, ↓mlet_eq, ↓mbp_eq, ↓mbnd_eq, ↓mix_ite, ↓mdiv_ite, ↓mnz_ite, nI_add, nI_mul, nI_nat, nI_ltE, nI_leE, nI_eqE, nI_eqN, nI_Neq, nI_Nlt, nI_Nle, nI_ltN, nI_leN, ↓reduceIte, ↓Nat.reduceEqDiff, and_f, nt_e, nt_t, nl_t, nl_f, ne_t, ne_f, and_self, or_self, or_true, true_or, or_false, false_or, if_true, if_false, and_true, true_and, and_false, false_and, not_true, not_false_iff, ms_n hS, t0, q]
    · simp (disch := omega) only [lit_0, lit_1, lit_2, lit_3, lit_4, lit_5, lit_6, lit_7, lit_8, lit_9, lit_10, lit_11, lit_12, lit_13, lit_14, lit_15, lit_16, lit_20, lit_23, lit_24, lit_31, lit_32, lit_39, lit_43, lit_45, lit_47, lit_48, lit_56, lit_57, lit_59, lit_60, lit_62, lit_63, lit_89, lit_92, lit_96, lit_97, lit_99, lit_100, lit_102, lit_103, lit_104, lit_110, lit_111, lit_115, lit_117, lit_194, lit_200, lit_644, lit_736, lit_999, lit_1000, lit_9999, lit_10000, lit_1000000000, ↓wp_mlet, ↓wp_mbp, ↓wp_ite, ↓wp_mix, ↓wp_mdiv, ↓wp_mnz, ↓wp_some, ↓wp_mbnd, ↓mlet_eq, ↓mbp_eq, ↓mbnd_eq, ↓mix_ite, ↓mdiv_ite, ↓mnz_ite, nI_add, nI_mul, nI_nat, nI_ltE, nI_leE, nI_eqE, nI_eqN, nI_Neq, nI_Nlt, nI_Nle, nI_ltN, nI_leN, ↓reduceIte, ↓Nat.reduceEqDiff, and_f, nt_e, nt_t, nl_t, nl_f, ne_t, ne_f, and_self, or_self, or_true, true_or, or_false, false_or, if_true, if_false, and_true, true_and, and_false, false_and, not_true, not_false_iff, ms_n hS, t0]
theorem m_first {M : Mem} {H : Nat} {α : Sp} (hS : M 12 48 = enc α) (hi : Inv H α) (he : en α) : f_X12_takesFirst M = some ((), fil M 12 56 0 (α 5) (fun k => nI (ky α k))) := by
  have h5 : α 5 ≤ 3 := hi.1.2.2.2.2.2.1
  unfold f_X12_takesFirst
  generalize hN : (1000 : Nat) = N
  have key := mloop (F := fun n x s kk => f_X12_takesFirst_L2 n x s kk) (c := α 5) (fun x => fil M 12 56 0 x (fun k => nI (ky α k))) (fun m x kk hx => by
    show f_X12_takesFirst_L2 (m + 1) (nI x) (fil M 12 56 0 x (fun k => nI (ky α k))) kk = f_X12_takesFirst_L2 m (nI (x + 1)) (fil M 12 56 0 (x + 1) (fun k => nI (ky α k))) kk
    have e : ∀ j, ¬ (j = 48 ∨ j = 51 ∨ j = 54) → (fil M 12 56 0 x (fun k => nI (ky α k))) 12 48 j = nI (α j) := fun j hj => by rw [fil_ne (by decide)]; exact ms_n hS hj
    have ek : (fil M 12 56 0 x (fun k => nI (ky α k))) 12 48 (23 + x) = nI (ky α x) := e (23 + x) (by omega)
    rw [f_X12_takesFirst_L2.eq_2, ← fil_s (Nat.zero_le x) rfl]
    simp (disch := omega) only [lit_0, lit_1, lit_2, lit_3, lit_4, lit_5, lit_6, lit_7, lit_8, lit_9, lit_10, lit_11, lit_12, lit_13, lit_14, lit_15, lit_16, lit_20, lit_23, lit_24, lit_31, lit_32, lit_39, lit_43, lit_45, lit_47, lit_48, lit_56, lit_57, lit_59, lit_60, lit_62, lit_63, lit_89, lit_92, lit_96, lit_97, lit_99, lit_100, lit_102, lit_103, lit_104, lit_110, lit_111, lit_115, lit_117, lit_194, lit_200, lit_644, lit_736, lit_999, lit_1000, lit_9999, lit_10000, lit_1000000000, ↓wp_mlet, ↓wp_mbp, ↓wp_ite, ↓wp_mix, ↓wp_mdiv, ↓wp_mnz, ↓wp_some, ↓wp_mbnd, ↓mlet_eq, ↓mbp_eq, ↓mbnd_eq, ↓mix_ite, ↓mdiv_ite, ↓mnz_ite, nI_add, nI_mul, nI_nat, nI_ltE, nI_leE, nI_eqE, nI_eqN, nI_Neq, nI_Nlt, nI_Nle, nI_ltN, nI_leN, ↓reduceIte, ↓Nat.reduceEqDiff, and_f, nt_e, nt_t, nl_t, nl_f, ne_t, ne_f, and_self, or_self, or_true, true_or, or_false, false_or, if_true, if_false, and_true, true_and, and_false, false_and, not_true, not_false_iff, e 5 (by decide), ek]) (fun m kk => by
    show f_X12_takesFirst_L2 (m + 1) (nI (α 5)) (fil M 12 56 0 (α 5) (fun k => nI (ky α k))) kk = _
    have e : (fil M 12 56 0 (α 5) (fun k => nI (ky α k))) 12 48 5 = nI (α 5) := by rw [fil_ne (by decide)]; exact ms_n hS (by decide)
    rw [f_X12_takesFirst_L2.eq_2]
    simp (disch := omega) only [lit_0, lit_1, lit_2, lit_3, lit_4, lit_5, lit_6, lit_7, lit_8, lit_9, lit_10, lit_11, lit_12, lit_13, lit_14, lit_15, lit_16, lit_20, lit_23, lit_24, lit_31, lit_32, lit_39, lit_43, lit_45, lit_47, lit_48, lit_56, lit_57, lit_59, lit_60, lit_62, lit_63, lit_89, lit_92, lit_96, lit_97, lit_99, lit_100, lit_102, lit_103, lit_104, lit_110, lit_111, lit_115, lit_117, lit_194, lit_200, lit_644, lit_736, lit_999, lit_1000, lit_9999, lit_10000, lit_1000000000, ↓wp_mlet, ↓wp_mbp, ↓wp_ite, ↓wp_mix, ↓wp_mdiv, ↓wp_mnz, ↓wp_some, ↓wp_mbnd, ↓mlet_eq, ↓mbp_eq, ↓mbnd_eq, ↓mix_ite, ↓mdiv_ite, ↓mnz_ite, nI_add, nI_mul, nI_nat, nI_ltE, nI_leE, nI_eqE, nI_eqN, nI_Neq, nI_Nlt, nI_Nle, nI_ltN, nI_leN, ↓reduceIte, ↓Nat.reduceEqDiff, and_f, nt_e, nt_t, nl_t, nl_f, ne_t, ne_f, and_self, or_self, or_true, true_or, or_false, false_or, if_true, if_false, and_true, true_and, and_false, false_and, not_true, not_false_iff, e]) (α 5) N 0 (fun M6 => some ((), M6)) (by omega) (by omega)
  have e0 : f_X12_takesFirst_L2 N 0 M (fun M6 => some ((), M6)) = f_X12_takesFirst_L2 N (nI 0) (fil M 12 56 0 0 (fun k => nI (ky α k))) (fun M6 => some ((), M6)) := by rw [fil_0]; rfl
  rw [e0]
  exact key
theorem Lm0 {M M2 : Mem} {H : Nat} {α : Sp} (hS : M2 12 48 = enc α) (hi : Inv H α) (he : en α) (h2 : M2 = fil M 12 56 0 (α 5) (fun k => nI (ky α k))) : Lm M2 (α 5) (sh α) (ky α) := by
  have hu := ky_tu hi he.2
  obtain ⟨⟨b0, b1, b2, b3, b4, b5, b6, b7, b8, b9, b10, b11, b14⟩, i1, i2, bs, bk, bn, bz, bt, bg, bl⟩ := hi
  have q := i2 he.1
  refine ⟨ms_n hS (by decide), ⟨q, b5⟩, fun k hk => ⟨ms_n hS (by omega), bs k hk⟩, fun i hi => ?_, hu⟩
  rw [h2, fil_at, if_pos (by omega)]
theorem pair_toldSecret {n : Nat} {M : Mem} (hr : Rel n M) : PairG n (fun x => if x = 4 then 1 else 0) M f_X11_toldSecret f_X12_toldSecret := by
  have hr' := Rel_thr hr
  have hr0 := hr
  obtain ⟨α, αh, αs, K, nx, fed, b, H, ⟨hk, hd, hb, hj⟩, hS, hH, hs, hx, hi, hih, his, hbb⟩ := hr
  obtain ⟨c1, c2⟩ := c_require hk hi
  obtain ⟨m1, m2⟩ := m_enough hS hi
  unfold PairG f_X11_toldSecret f_X12_toldSecret
  by_cases he : en α
  · have hl := Lk0 hk hi he
    have hS' := ms_t (x := nI 0) hS
    have hf := m_first hS' hi he
    have e1 : f_X6_toldAt 0 (nI 0) M = some (nI (thr (α 5) (sh α) (ky α) 0)) := by
      unfold f_X6_toldAt
      rw [c_thr hl (by decide)]
      rfl
    refine ⟨.inr (nI (thr (α 5) (sh α) (ky α) 0)), ?_, ?_⟩
    · rw [c1 he, mbpx_r]
      simp only [lit_0, lit_1, lit_2, lit_3, lit_4, lit_5, lit_6, lit_7, lit_8, lit_9, lit_10, lit_11, lit_12, lit_13, lit_14, lit_15, lit_16, lit_20, lit_23, lit_24, lit_31, lit_32, lit_39, lit_43, lit_45, lit_47, lit_48, lit_56, lit_57, lit_59, lit_60, lit_62, lit_63, lit_89, lit_92, lit_96, lit_97, lit_99, lit_100, lit_102, lit_103, lit_104, lit_110, lit_111, lit_115, lit_117, lit_194, lit_200, lit_644, lit_736, lit_999, lit_1000, lit_9999, lit_10000, lit_1000000000]
      rw [e1, mbp_eq]
    · have hl2 := Lm0 (M := mup M 12 47 0 (nI 0)) (M2 := fil (mup M 12 47 0 (nI 0)) 12 56 0 (α 5) (fun k => nI (ky α k))) (by rw [fil_ne (by decide)]; exact hS') hi he rfl
      have e2 := m_thr hl2 (x := 0) (by decide)
      rw [m1 he]
      simp (disch := omega) only [lit_0, lit_1, lit_2, lit_3, lit_4, lit_5, lit_6, lit_7, lit_8, lit_9, lit_10, lit_11, lit_12, lit_13, lit_14, lit_15, lit_16, lit_20, lit_23, lit_24, lit_31, lit_32, lit_39, lit_43, lit_45, lit_47, lit_48, lit_56, lit_57, lit_59, lit_60, lit_62, lit_63, lit_89, lit_92, lit_96, lit_97, lit_99, lit_100, lit_102, lit_103, lit_104, lit_110, lit_111, lit_115, lit_117, lit_194, lit_200, lit_644, lit_736, lit_999, lit_1000, lit_9999, lit_10000, lit_1000000000, ↓wp_mlet, ↓wp_mbp, ↓wp_ite, ↓wp_mix, ↓wp_mdiv, ↓wp_mnz, ↓wp_some, ↓wp_mbnd, ↓mlet_eq, ↓mbp_eq, ↓mbnd_eq, ↓mix_ite, ↓mdiv_ite, ↓mnz_ite, nI_add, nI_mul, nI_nat, nI_ltE, nI_leE, nI_eqE, nI_eqN, nI_Neq, nI_Nlt, nI_Nle, nI_ltN, nI_leN, ↓reduceIte, ↓Nat.reduceEqDiff, and_f, nt_e, nt_t, nl_t, nl_f, ne_t, ne_f, and_self, or_self, or_true, true_or, or_false, false_or, if_true, if_false, and_true, true_and, and_false, false_and, not_true, not_false_iff, hf, e2]
      refine ⟨Rel_w hr0 (fun i hi => ?_) (fun a b hab => ?_), ?_, rfl⟩
      · rw [fil_ne (by decide), mup_at, if_neg (by omega)]
      · rw [fil_ne (by omega), pm_ne (by omega)]
      · rw [fil_ne (by decide)]; exact thr0
  · refine ⟨.inl 4, ?_, ?_⟩
    · rw [c2 he, mbpx_l]
    · rw [m2 he]
      simp (disch := omega) only [lit_0, lit_1, lit_2, lit_3, lit_4, lit_5, lit_6, lit_7, lit_8, lit_9, lit_10, lit_11, lit_12, lit_13, lit_14, lit_15, lit_16, lit_20, lit_23, lit_24, lit_31, lit_32, lit_39, lit_43, lit_45, lit_47, lit_48, lit_56, lit_57, lit_59, lit_60, lit_62, lit_63, lit_89, lit_92, lit_96, lit_97, lit_99, lit_100, lit_102, lit_103, lit_104, lit_110, lit_111, lit_115, lit_117, lit_194, lit_200, lit_644, lit_736, lit_999, lit_1000, lit_9999, lit_10000, lit_1000000000, ↓wp_mlet, ↓wp_mbp, ↓wp_ite, ↓wp_mix, ↓wp_mdiv, ↓wp_mnz, ↓wp_some, ↓wp_mbnd, ↓mlet_eq, ↓mbp_eq, ↓mbnd_eq, ↓mix_ite, ↓mdiv_ite, ↓mnz_ite, nI_add, nI_mul, nI_nat, nI_ltE, nI_leE, nI_eqE, nI_eqN, nI_Neq, nI_Nlt, nI_Nle, nI_ltN, nI_leN, ↓reduceIte, ↓Nat.reduceEqDiff, and_f, nt_e, nt_t, nl_t, nl_f, ne_t, ne_f, and_self, or_self, or_true, true_or, or_false, false_or, if_true, if_false, and_true, true_and, and_false, false_and, not_true, not_false_iff]
      exact ⟨hr' _, thr0, by decide, by decide⟩
theorem idx97 {a1 : Int32} : idx a1 97 = true ∨ idx a1 97 = false := by cases idx a1 97 <;> simp
theorem pair_toldValue {n : Nat} {M : Mem} (hr : Rel n M) (a1 : Int32) : PairG n (fun x => if x = 2 then 1 else if x = 4 then 2 else 0) M (f_X11_toldValue a1) (f_X12_toldValue a1) := by
  have hr' := Rel_thr hr
  have hr0 := hr
  obtain ⟨α, αh, αs, K, nx, fed, b, H, ⟨hk, hd, hb, hj⟩, hS, hH, hs, hx, hi, hih, his, hbb⟩ := hr
  obtain ⟨c1, c2⟩ := c_require hk hi
  obtain ⟨m1, m2⟩ := m_enough hS hi
  unfold PairG f_X11_toldValue f_X12_toldValue
  simp only [lit_0, lit_1, lit_2, lit_3, lit_4, lit_5, lit_6, lit_7, lit_8, lit_9, lit_10, lit_11, lit_12, lit_13, lit_14, lit_15, lit_16, lit_20, lit_23, lit_24, lit_31, lit_32, lit_39, lit_43, lit_45, lit_47, lit_48, lit_56, lit_57, lit_59, lit_60, lit_62, lit_63, lit_89, lit_92, lit_96, lit_97, lit_99, lit_100, lit_102, lit_103, lit_104, lit_110, lit_111, lit_115, lit_117, lit_194, lit_200, lit_644, lit_736, lit_999, lit_1000, lit_9999, lit_10000, lit_1000000000]
  have r96 := rng_c a1 96 (by decide)
  rcases idx_c a1 97 (by decide) with ⟨x, hx1, rfl, e1⟩ | ⟨e1, h⟩
  · by_cases he : en α
    · have hl := Lk0 hk hi he
      have hS' := ms_t (x := nI 0) hS
      have hS2 := ms_t (x := nI 0) hS'
      have hf := m_first hS2 hi he
      have e3 : f_X6_toldAt 0 (nI x) M = some (nI (thr (α 5) (sh α) (ky α) x)) := by
        unfold f_X6_toldAt
        rw [c_thr hl (by omega)]
        rfl
      refine ⟨.inr (nI (thr (α 5) (sh α) (ky α) x)), ?_, ?_⟩
      · simp (disch := omega) only [lit_0, lit_1, lit_2, lit_3, lit_4, lit_5, lit_6, lit_7, lit_8, lit_9, lit_10, lit_11, lit_12, lit_13, lit_14, lit_15, lit_16, lit_20, lit_23, lit_24, lit_31, lit_32, lit_39, lit_43, lit_45, lit_47, lit_48, lit_56, lit_57, lit_59, lit_60, lit_62, lit_63, lit_89, lit_92, lit_96, lit_97, lit_99, lit_100, lit_102, lit_103, lit_104, lit_110, lit_111, lit_115, lit_117, lit_194, lit_200, lit_644, lit_736, lit_999, lit_1000, lit_9999, lit_10000, lit_1000000000, ↓wp_mlet, ↓wp_mbp, ↓wp_ite, ↓wp_mix, ↓wp_mdiv, ↓wp_mnz, ↓wp_some, ↓wp_mbnd, ↓mlet_eq, ↓mbp_eq, ↓mbnd_eq, ↓mix_ite, ↓mdiv_ite, ↓mnz_ite, nI_add, nI_mul, nI_nat, nI_ltE, nI_leE, nI_eqE, nI_eqN, nI_Neq, nI_Nlt, nI_Nle, nI_ltN, nI_leN, ↓reduceIte, ↓Nat.reduceEqDiff, and_f, nt_e, nt_t, nl_t, nl_f, ne_t, ne_f, and_self, or_self, or_true, true_or, or_false, false_or, if_true, if_false, and_true, true_and, and_false, false_and, not_true, not_false_iff, c1 he, mbpx_r, e3, nI_pos]
      · have hl2 := Lm0 (M := mup (mup M 12 47 0 (nI 0)) 12 47 0 (nI 0)) (M2 := fil (mup (mup M 12 47 0 (nI 0)) 12 47 0 (nI 0)) 12 56 0 (α 5) (fun k => nI (ky α k))) (by rw [fil_ne (by decide)]; exact hS2) hi he rfl
        have e2 := m_thr hl2 (x := x) (by omega)
        have t0 : ∀ (M : Mem) x, (mup M 12 47 0 x) 12 47 0 = x := fun M x => thr0
        rw [m1 he, r96, e1]
        simp (disch := omega) only [lit_0, lit_1, lit_2, lit_3, lit_4, lit_5, lit_6, lit_7, lit_8, lit_9, lit_10, lit_11, lit_12, lit_13, lit_14, lit_15, lit_16, lit_20, lit_23, lit_24, lit_31, lit_32, lit_39, lit_43, lit_45, lit_47, lit_48, lit_56, lit_57, lit_59, lit_60, lit_62, lit_63, lit_89, lit_92, lit_96, lit_97, lit_99, lit_100, lit_102, lit_103, lit_104, lit_110, lit_111, lit_115, lit_117, lit_194, lit_200, lit_644, lit_736, lit_999, lit_1000, lit_9999, lit_10000, lit_1000000000, ↓wp_mlet, ↓wp_mbp, ↓wp_ite, ↓wp_mix, ↓wp_mdiv, ↓wp_mnz, ↓wp_some, ↓wp_mbnd, ↓mlet_eq, ↓mbp_eq, ↓mbnd_eq, ↓mix_ite, ↓mdiv_ite, ↓mnz_ite, nI_add, nI_mul, nI_nat, nI_ltE, nI_leE, nI_eqE, nI_eqN, nI_Neq, nI_Nlt, nI_Nle, nI_ltN, nI_leN, ↓reduceIte, ↓Nat.reduceEqDiff, and_f, nt_e, nt_t, nl_t, nl_f, ne_t, ne_f, and_self, or_self, or_true, true_or, or_false, false_or, if_true, if_false, and_true, true_and, and_false, false_and, not_true, not_false_iff, hf, e2, t0, Bool.toNat_true]
        refine ⟨Rel_w hr0 (fun i hi => ?_) (fun a b hab => ?_), ?_, rfl⟩
        · rw [fil_ne (by decide), mup_at, if_neg (by omega), mup_at, if_neg (by omega)]
        · rw [fil_ne (by omega), pm_ne (by omega), pm_ne (by omega)]
        · rw [fil_ne (by decide)]; exact thr0
    · refine ⟨.inl 4, ?_, ?_⟩
      · simp (disch := omega) only [lit_0, lit_1, lit_2, lit_3, lit_4, lit_5, lit_6, lit_7, lit_8, lit_9, lit_10, lit_11, lit_12, lit_13, lit_14, lit_15, lit_16, lit_20, lit_23, lit_24, lit_31, lit_32, lit_39, lit_43, lit_45, lit_47, lit_48, lit_56, lit_57, lit_59, lit_60, lit_62, lit_63, lit_89, lit_92, lit_96, lit_97, lit_99, lit_100, lit_102, lit_103, lit_104, lit_110, lit_111, lit_115, lit_117, lit_194, lit_200, lit_644, lit_736, lit_999, lit_1000, lit_9999, lit_10000, lit_1000000000, ↓wp_mlet, ↓wp_mbp, ↓wp_ite, ↓wp_mix, ↓wp_mdiv, ↓wp_mnz, ↓wp_some, ↓wp_mbnd, ↓mlet_eq, ↓mbp_eq, ↓mbnd_eq, ↓mix_ite, ↓mdiv_ite, ↓mnz_ite, nI_add, nI_mul, nI_nat, nI_ltE, nI_leE, nI_eqE, nI_eqN, nI_Neq, nI_Nlt, nI_Nle, nI_ltN, nI_leN, ↓reduceIte, ↓Nat.reduceEqDiff, and_f, nt_e, nt_t, nl_t, nl_f, ne_t, ne_f, and_self, or_self, or_true, true_or, or_false, false_or, if_true, if_false, and_true, true_and, and_false, false_and, not_true, not_false_iff, c2 he, mbpx_l, nI_pos]
      · have t0 : ∀ (M : Mem) x, (mup M 12 47 0 x) 12 47 0 = x := fun M x => thr0
        rw [m2 he, r96, e1]
        simp (disch := omega) only [lit_0, lit_1, lit_2, lit_3, lit_4, lit_5, lit_6, lit_7, lit_8, lit_9, lit_10, lit_11, lit_12, lit_13, lit_14, lit_15, lit_16, lit_20, lit_23, lit_24, lit_31, lit_32, lit_39, lit_43, lit_45, lit_47, lit_48, lit_56, lit_57, lit_59, lit_60, lit_62, lit_63, lit_89, lit_92, lit_96, lit_97, lit_99, lit_100, lit_102, lit_103, lit_104, lit_110, lit_111, lit_115, lit_117, lit_194, lit_200, lit_644, lit_736, lit_999, lit_1000, lit_9999, lit_10000, lit_1000000000, ↓wp_mlet, ↓wp_mbp, ↓wp_ite, ↓wp_mix, ↓wp_mdiv, ↓wp_mnz, ↓wp_some, ↓wp_mbnd, ↓mlet_eq, ↓mbp_eq, ↓mbnd_eq, ↓mix_ite, ↓mdiv_ite, ↓mnz_ite, nI_add, nI_mul, nI_nat, nI_ltE, nI_leE, nI_eqE, nI_eqN, nI_Neq, nI_Nlt, nI_Nle, nI_ltN, nI_leN, ↓reduceIte, ↓Nat.reduceEqDiff, and_f, nt_e, nt_t, nl_t, nl_f, ne_t, ne_f, and_self, or_self, or_true, true_or, or_false, false_or, if_true, if_false, and_true, true_and, and_false, false_and, not_true, not_false_iff, t0, Bool.toNat_true, thr2]
        exact ⟨hr' _, rfl, by decide, by decide⟩
  · have hm : ∃ w M2, f_X12_areEnough M = some (nI w, mup M 12 47 0 M2) := by
      by_cases he : en α
      · exact ⟨_, _, m1 he⟩
      · exact ⟨_, _, m2 he⟩
    obtain ⟨w, y, hm⟩ := hm
    refine ⟨.inl 2, ?_, ?_⟩
    · rcases h with h | ⟨j, hj, h, rfl⟩
      · rw [mlet_eq, if_pos (show a1 < nI 0 from h)]
      · rw [mlet_eq, if_neg (by rw [nI_ltE (by omega) (by omega)]; omega), if_neg (by rw [nI_ltE (by omega) (by omega)]; omega)]
    · have t0 : ∀ (M : Mem) x, (mup M 12 47 0 x) 12 47 0 = x := fun M x => thr0
      rw [hm, r96, e1]
      simp (disch := omega) only [lit_0, lit_1, lit_2, lit_3, lit_4, lit_5, lit_6, lit_7, lit_8, lit_9, lit_10, lit_11, lit_12, lit_13, lit_14, lit_15, lit_16, lit_20, lit_23, lit_24, lit_31, lit_32, lit_39, lit_43, lit_45, lit_47, lit_48, lit_56, lit_57, lit_59, lit_60, lit_62, lit_63, lit_89, lit_92, lit_96, lit_97, lit_99, lit_100, lit_102, lit_103, lit_104, lit_110, lit_111, lit_115, lit_117, lit_194, lit_200, lit_644, lit_736, lit_999, lit_1000, lit_9999, lit_10000, lit_1000000000, ↓wp_mlet, ↓wp_mbp, ↓wp_ite, ↓wp_mix, ↓wp_mdiv, ↓wp_mnz, ↓wp_some, ↓wp_mbnd, ↓mlet_eq, ↓mbp_eq, ↓mbnd_eq, ↓mix_ite, ↓mdiv_ite, ↓mnz_ite, nI_add, nI_mul, nI_nat, nI_ltE, nI_leE, nI_eqE, nI_eqN, nI_Neq, nI_Nlt, nI_Nle, nI_ltN, nI_leN, ↓reduceIte, ↓Nat.reduceEqDiff, and_f, nt_e, nt_t, nl_t, nl_f, ne_t, ne_f, and_self, or_self, or_true, true_or, or_false, false_or, if_true, if_false, and_true, true_and, and_false, false_and, not_true, not_false_iff, t0, Bool.toNat_false, thr2]
      exact ⟨hr' _, rfl, by decide, by decide⟩
theorem c_agree {M : Mem} {H : Nat} {α : Sp} (hk : Rk (M 0) α) (hi : Inv H α) (he : en α) : f_X6_isOneCurve 0 0 4 (M 0 1 5) M = some (nI (one (α 5) (sh α) (ky α) (α 9)).toNat) := by
  have hl := Lk0 hk hi he
  obtain ⟨h1, h2, h3, h4, h5, h6, h7⟩ := hk
  obtain ⟨⟨b0, b1, b2, b3, b4, b5, b6, b7, b8, b9, b10, b11, b14⟩, i1, i2, bs, bk, bn, bz, bt, bg, bl⟩ := hi
  rw [h4]
  exact c_one hl he.2 (by omega) (fun k hk => ⟨h7 k (by omega) hk, by have := bk k hk; show α (23 + k) < 8; omega⟩)
theorem one_cnt {T n : Nat} {s t : Nat → Nat} : (one T s t n = true) = (cnt (fun k => onC T s t (t k)) n = n) := by
  rw [one_t]
  exact propext (cnt_all n).symm
theorem pair_doAgree {n : Nat} {M : Mem} (hr : Rel n M) : PairG n (fun x => if x = 4 then 1 else 0) M f_X11_doAgree f_X12_doAgree := by
  have hr' := Rel_thr hr
  have hr0 := hr
  obtain ⟨α, αh, αs, K, nx, fed, b, H, ⟨hk, hd, hb, hj⟩, hS, hH, hs, hx, hi, hih, his, hbb⟩ := hr
  obtain ⟨c1, c2⟩ := c_require hk hi
  obtain ⟨m1, m2⟩ := m_enough hS hi
  unfold PairG f_X11_doAgree f_X12_doAgree f_X6_allAgree
  by_cases he : en α
  · have hS' := ms_t (x := nI 0) hS
    have hf := m_first hS' hi he
    have e1 := c_agree hk hi he
    have hl2 := Lm0 (M := mup M 12 47 0 (nI 0)) (M2 := fil (mup M 12 47 0 (nI 0)) 12 56 0 (α 5) (fun k => nI (ky α k))) (by rw [fil_ne (by decide)]; exact hS') hi he rfl
    have hS2 : (fil (mup M 12 47 0 (nI 0)) 12 56 0 (α 5) (fun k => nI (ky α k))) 12 48 = enc α := by rw [fil_ne (by decide)]; exact hS'
    have hR2 : Rel (n + 1) (fil (mup M 12 47 0 (nI 0)) 12 56 0 (α 5) (fun k => nI (ky α k))) := Rel_w hr0 (fun i hi => by rw [fil_ne (by decide), mup_at, if_neg (by omega)]) (fun a b hab => by rw [fil_ne (by omega), pm_ne (by omega)])
    have hT0 : (fil (mup M 12 47 0 (nI 0)) 12 56 0 (α 5) (fun k => nI (ky α k))) 12 47 0 = nI 0 := by rw [fil_ne (by decide)]; exact thr0
    generalize fil (mup M 12 47 0 (nI 0)) 12 56 0 (α 5) (fun k => nI (ky α k)) = M2 at *
    obtain ⟨⟨b0, b1, b2, b3, b4, b5, b6, b7, b8, b9, b10, b11, b14⟩, i1, i2, bs, bk, bn, bz, bt, bg, bl⟩ := hi
    have e2 := m_onIt hl2 (ky := ky α) (n := α 9) (ms_n hS2 (by decide)) (by omega) (fun k hk => ⟨ms_n hS2 (by omega), by have := bk k hk; show α (23 + k) < 8; omega⟩)
    have e3 := one_cnt (T := α 5) (s := sh α) (t := ky α) (n := α 9)
    have l := cnt_le (P := fun k => onC (α 5) (sh α) (ky α) (ky α k)) (α 9)
    rw [c1 he, m1 he]
    simp (disch := omega) only [lit_0, lit_1, lit_2, lit_3, lit_4, lit_5, lit_6, lit_7, lit_8, lit_9, lit_10, lit_11, lit_12, lit_13, lit_14, lit_15, lit_16, lit_20, lit_23, lit_24, lit_31, lit_32, lit_39, lit_43, lit_45, lit_47, lit_48, lit_56, lit_57, lit_59, lit_60, lit_62, lit_63, lit_89, lit_92, lit_96, lit_97, lit_99, lit_100, lit_102, lit_103, lit_104, lit_110, lit_111, lit_115, lit_117, lit_194, lit_200, lit_644, lit_736, lit_999, lit_1000, lit_9999, lit_10000, lit_1000000000, ↓wp_mlet, ↓wp_mbp, ↓wp_ite, ↓wp_mix, ↓wp_mdiv, ↓wp_mnz, ↓wp_some, ↓wp_mbnd, ↓mlet_eq, ↓mbp_eq, ↓mbnd_eq, ↓mix_ite, ↓mdiv_ite, ↓mnz_ite, nI_add, nI_mul, nI_nat, nI_ltE, nI_leE, nI_eqE, nI_eqN, nI_Neq, nI_Nlt, nI_Nle, nI_ltN, nI_leN, ↓reduceIte, ↓Nat.reduceEqDiff, and_f, nt_e, nt_t, nl_t, nl_f, ne_t, ne_f, and_self, or_self, or_true, true_or, or_false, false_or, if_true, if_false, and_true, true_and, and_false, false_and, not_true, not_false_iff, mbpx_r, hf, e1, e2, ms_n hS2]
    generalize cnt (fun k => onC (α 5) (sh α) (ky α) (ky α k)) (α 9) = c at *
    cases q : one (α 5) (sh α) (ky α) (α 9) with
    | true =>
      have e4 : c = α 9 := e3 ▸ q
      refine ⟨.inr (nI 1), rfl, ?_⟩
      simp (disch := omega) only [lit_0, lit_1, lit_2, lit_3, lit_4, lit_5, lit_6, lit_7, lit_8, lit_9, lit_10, lit_11, lit_12, lit_13, lit_14, lit_15, lit_16, lit_20, lit_23, lit_24, lit_31, lit_32, lit_39, lit_43, lit_45, lit_47, lit_48, lit_56, lit_57, lit_59, lit_60, lit_62, lit_63, lit_89, lit_92, lit_96, lit_97, lit_99, lit_100, lit_102, lit_103, lit_104, lit_110, lit_111, lit_115, lit_117, lit_194, lit_200, lit_644, lit_736, lit_999, lit_1000, lit_9999, lit_10000, lit_1000000000, ↓wp_mlet, ↓wp_mbp, ↓wp_ite, ↓wp_mix, ↓wp_mdiv, ↓wp_mnz, ↓wp_some, ↓wp_mbnd, ↓mlet_eq, ↓mbp_eq, ↓mbnd_eq, ↓mix_ite, ↓mdiv_ite, ↓mnz_ite, nI_add, nI_mul, nI_nat, nI_ltE, nI_leE, nI_eqE, nI_eqN, nI_Neq, nI_Nlt, nI_Nle, nI_ltN, nI_leN, ↓reduceIte, ↓Nat.reduceEqDiff, and_f, nt_e, nt_t, nl_t, nl_f, ne_t, ne_f, and_self, or_self, or_true, true_or, or_false, false_or, if_true, if_false, and_true, true_and, and_false, false_and, not_true, not_false_iff]
      exact ⟨hR2, hT0, rfl⟩
    | false =>
      have e4 : c ≠ α 9 := fun h => by
        have : one (α 5) (sh α) (ky α) (α 9) = true := e3 ▸ h
        rw [q] at this; cases this
      refine ⟨.inr (nI 0), rfl, ?_⟩
      simp (disch := omega) only [lit_0, lit_1, lit_2, lit_3, lit_4, lit_5, lit_6, lit_7, lit_8, lit_9, lit_10, lit_11, lit_12, lit_13, lit_14, lit_15, lit_16, lit_20, lit_23, lit_24, lit_31, lit_32, lit_39, lit_43, lit_45, lit_47, lit_48, lit_56, lit_57, lit_59, lit_60, lit_62, lit_63, lit_89, lit_92, lit_96, lit_97, lit_99, lit_100, lit_102, lit_103, lit_104, lit_110, lit_111, lit_115, lit_117, lit_194, lit_200, lit_644, lit_736, lit_999, lit_1000, lit_9999, lit_10000, lit_1000000000, ↓wp_mlet, ↓wp_mbp, ↓wp_ite, ↓wp_mix, ↓wp_mdiv, ↓wp_mnz, ↓wp_some, ↓wp_mbnd, ↓mlet_eq, ↓mbp_eq, ↓mbnd_eq, ↓mix_ite, ↓mdiv_ite, ↓mnz_ite, nI_add, nI_mul, nI_nat, nI_ltE, nI_leE, nI_eqE, nI_eqN, nI_Neq, nI_Nlt, nI_Nle, nI_ltN, nI_leN, ↓reduceIte, ↓Nat.reduceEqDiff, and_f, nt_e, nt_t, nl_t, nl_f, ne_t, ne_f, and_self, or_self, or_true, true_or, or_false, false_or, if_true, if_false, and_true, true_and, and_false, false_and, not_true, not_false_iff]
      exact ⟨hR2, hT0, rfl⟩
  · refine ⟨.inl 4, ?_, ?_⟩
    · rw [c2 he, mbpx_l]
    · rw [m2 he]
      simp (disch := omega) only [lit_0, lit_1, lit_2, lit_3, lit_4, lit_5, lit_6, lit_7, lit_8, lit_9, lit_10, lit_11, lit_12, lit_13, lit_14, lit_15, lit_16, lit_20, lit_23, lit_24, lit_31, lit_32, lit_39, lit_43, lit_45, lit_47, lit_48, lit_56, lit_57, lit_59, lit_60, lit_62, lit_63, lit_89, lit_92, lit_96, lit_97, lit_99, lit_100, lit_102, lit_103, lit_104, lit_110, lit_111, lit_115, lit_117, lit_194, lit_200, lit_644, lit_736, lit_999, lit_1000, lit_9999, lit_10000, lit_1000000000, ↓wp_mlet, ↓wp_mbp, ↓wp_ite, ↓wp_mix, ↓wp_mdiv, ↓wp_mnz, ↓wp_some, ↓wp_mbnd, ↓mlet_eq, ↓mbp_eq, ↓mbnd_eq, ↓mix_ite, ↓mdiv_ite, ↓mnz_ite, nI_add, nI_mul, nI_nat, nI_ltE, nI_leE, nI_eqE, nI_eqN, nI_Neq, nI_Nlt, nI_Nle, nI_ltN, nI_leN, ↓reduceIte, ↓Nat.reduceEqDiff, and_f, nt_e, nt_t, nl_t, nl_f, ne_t, ne_f, and_self, or_self, or_true, true_or, or_false, false_or, if_true, if_false, and_true, true_and, and_false, false_and, not_true, not_false_iff]
      exact ⟨hr' _, thr0, by decide, by decide⟩
theorem pair_toldSecretByElimination {n : Nat} {M : Mem} (hr : Rel n M) : Pair n (fun x => if x = 4 then 1 else 0) M f_X11_toldSecretByElimination f_X12_toldSecretByElimination := by
  have hr0 := hr
  obtain ⟨α, αh, αs, K, nx, fed, b, H, ⟨hk, hd, hb, hj⟩, hS, hH, hs, hx, hi, hih, his, hbb⟩ := hr
  obtain ⟨c1, c2⟩ := c_require hk hi
  unfold Pair f_X11_toldSecretByElimination f_X8_secretOf f_X12_toldSecretByElimination f_X12_toldSecret
  by_cases he : en α
  · have hl := Lk0 hk hi he
    obtain ⟨⟨⟩, M1, e1, f1, f2⟩ := c_fit hl (by decide) (by decide)
    have hS1 : M1 12 48 = enc α := by rw [f2 12 48 (by decide)]; exact hS
    have hS' := ms_t (x := nI 0) hS1
    have hf := m_first hS' hi he
    obtain ⟨m1, m2⟩ := m_enough hS1 hi
    have hl2 := Lm0 (M := mup M1 12 47 0 (nI 0)) (M2 := fil (mup M1 12 47 0 (nI 0)) 12 56 0 (α 5) (fun k => nI (ky α k))) (by rw [fil_ne (by decide)]; exact hS') hi he rfl
    have e2 := m_thr hl2 (x := 0) (by decide)
    have e3 : thr (α 5) (sh α) (ky α) 0 = (cf (α 5) (sh α) (ky α) 0).val := by
      unfold thr ev
      rw [zz_0, Fin.mul_zero, Fin.mul_zero, Fin.add_zero, Fin.add_zero]
    rw [c1 he]
    show wp (mbpxm (some (Sum.inr ())) M fun r1 => _) _
    unfold mbpxm
    simp (disch := omega) only [lit_0, lit_1, lit_2, lit_3, lit_4, lit_5, lit_6, lit_7, lit_8, lit_9, lit_10, lit_11, lit_12, lit_13, lit_14, lit_15, lit_16, lit_20, lit_23, lit_24, lit_31, lit_32, lit_39, lit_43, lit_45, lit_47, lit_48, lit_56, lit_57, lit_59, lit_60, lit_62, lit_63, lit_89, lit_92, lit_96, lit_97, lit_99, lit_100, lit_102, lit_103, lit_104, lit_110, lit_111, lit_115, lit_117, lit_194, lit_200, lit_644, lit_736, lit_999, lit_1000, lit_9999, lit_10000, lit_1000000000, ↓wp_mlet, ↓wp_mbp, ↓wp_ite, ↓wp_mix, ↓wp_mdiv, ↓wp_mnz, ↓wp_some, ↓wp_mbnd, ↓mlet_eq, ↓mbp_eq, ↓mbnd_eq, ↓mix_ite, ↓mdiv_ite, ↓mnz_ite, nI_add, nI_mul, nI_nat, nI_ltE, nI_leE, nI_eqE, nI_eqN, nI_Neq, nI_Nlt, nI_Nle, nI_ltN, nI_leN, ↓reduceIte, ↓Nat.reduceEqDiff, and_f, nt_e, nt_t, nl_t, nl_f, ne_t, ne_f, and_self, or_self, or_true, true_or, or_false, false_or, if_true, if_false, and_true, true_and, and_false, false_and, not_true, not_false_iff, e1, f1 0 (by decide)]
    rw [m1 he]
    simp (disch := omega) only [lit_0, lit_1, lit_2, lit_3, lit_4, lit_5, lit_6, lit_7, lit_8, lit_9, lit_10, lit_11, lit_12, lit_13, lit_14, lit_15, lit_16, lit_20, lit_23, lit_24, lit_31, lit_32, lit_39, lit_43, lit_45, lit_47, lit_48, lit_56, lit_57, lit_59, lit_60, lit_62, lit_63, lit_89, lit_92, lit_96, lit_97, lit_99, lit_100, lit_102, lit_103, lit_104, lit_110, lit_111, lit_115, lit_117, lit_194, lit_200, lit_644, lit_736, lit_999, lit_1000, lit_9999, lit_10000, lit_1000000000, ↓wp_mlet, ↓wp_mbp, ↓wp_ite, ↓wp_mix, ↓wp_mdiv, ↓wp_mnz, ↓wp_some, ↓wp_mbnd, ↓mlet_eq, ↓mbp_eq, ↓mbnd_eq, ↓mix_ite, ↓mdiv_ite, ↓mnz_ite, nI_add, nI_mul, nI_nat, nI_ltE, nI_leE, nI_eqE, nI_eqN, nI_Neq, nI_Nlt, nI_Nle, nI_ltN, nI_leN, ↓reduceIte, ↓Nat.reduceEqDiff, and_f, nt_e, nt_t, nl_t, nl_f, ne_t, ne_f, and_self, or_self, or_true, true_or, or_false, false_or, if_true, if_false, and_true, true_and, and_false, false_and, not_true, not_false_iff, hf, e2]
    refine ⟨Rel_w hr0 (fun i hi => ?_) (fun a b hab => ?_), ?_, ?_⟩
    · rw [fil_ne (by decide), mup_at, if_neg (by omega), f2 12 47 (by decide)]
    · rw [fil_ne (by omega), pm_ne (by omega), f2 a b (by omega)]
    · rw [fil_ne (by decide)]; exact thr0
    · rw [e3]
  · obtain ⟨m1, m2⟩ := m_enough hS hi
    rw [c2 he]
    show wp (mbpxm (some (Sum.inl 4)) M fun r1 => _) _
    unfold mbpxm
    simp only [wp_some]
    rw [m2 he]
    simp (disch := omega) only [lit_0, lit_1, lit_2, lit_3, lit_4, lit_5, lit_6, lit_7, lit_8, lit_9, lit_10, lit_11, lit_12, lit_13, lit_14, lit_15, lit_16, lit_20, lit_23, lit_24, lit_31, lit_32, lit_39, lit_43, lit_45, lit_47, lit_48, lit_56, lit_57, lit_59, lit_60, lit_62, lit_63, lit_89, lit_92, lit_96, lit_97, lit_99, lit_100, lit_102, lit_103, lit_104, lit_110, lit_111, lit_115, lit_117, lit_194, lit_200, lit_644, lit_736, lit_999, lit_1000, lit_9999, lit_10000, lit_1000000000, ↓wp_mlet, ↓wp_mbp, ↓wp_ite, ↓wp_mix, ↓wp_mdiv, ↓wp_mnz, ↓wp_some, ↓wp_mbnd, ↓mlet_eq, ↓mbp_eq, ↓mbnd_eq, ↓mix_ite, ↓mdiv_ite, ↓mnz_ite, nI_add, nI_mul, nI_nat, nI_ltE, nI_leE, nI_eqE, nI_eqN, nI_Neq, nI_Nlt, nI_Nle, nI_ltN, nI_leN, ↓reduceIte, ↓Nat.reduceEqDiff, and_f, nt_e, nt_t, nl_t, nl_f, ne_t, ne_f, and_self, or_self, or_true, true_or, or_false, false_or, if_true, if_false, and_true, true_and, and_false, false_and, not_true, not_false_iff]
    exact ⟨Rel_thr hr0 _, thr0, by decide, by decide⟩
/-! SETS OF PLACES -/
def pop (x : Nat) : Nat := cnt (fun k => x.testBit k) 8
def sel (x j : Nat) : Nat := if x.testBit 0 && j == 0 then 0 else if x.testBit 1 && cnt (fun k => x.testBit k) 1 == j then 1 else if x.testBit 2 && cnt (fun k => x.testBit k) 2 == j then 2 else if x.testBit 3 && cnt (fun k => x.testBit k) 3 == j then 3 else if x.testBit 4 && cnt (fun k => x.testBit k) 4 == j then 4 else if x.testBit 5 && cnt (fun k => x.testBit k) 5 == j then 5 else if x.testBit 6 && cnt (fun k => x.testBit k) 6 == j then 6 else 7
theorem sel_all : ∀ x : Fin 256, ∀ j : Fin 8, j.val < pop x.val → sel x.val j.val < 8 ∧ x.val.testBit (sel x.val j.val) = true ∧ cnt (fun k => x.val.testBit k) (sel x.val j.val) = j.val := by decide +kernel
theorem sel_lt_all : ∀ x : Fin 256, ∀ j : Fin 8, ∀ i : Fin 8, j.val < pop x.val → i.val < j.val → sel x.val i.val < sel x.val j.val := by decide +kernel
/-- the first T of a set -/
def fst3 (T y : Nat) : Nat := (List.range 8).foldl (fun m k => if y.testBit k && decide (cnt (fun k => y.testBit k) k < T) then m + 2 ^ k else m) 0
theorem fst_all : ∀ y : Fin 256, ∀ T : Fin 4, T.val ≤ pop y.val → fst3 T.val y.val ≤ y.val ∧ pop (fst3 T.val y.val) = T.val ∧ ∀ i : Fin 4, i.val < T.val → sel (fst3 T.val y.val) i.val = sel y.val i.val := by decide +kernel
/-- the set of a row of places -/
def tup (T : Nat) (u : Nat → Nat) : Nat := if T = 1 then 2 ^ u 0 else if T = 2 then 2 ^ u 0 + 2 ^ u 1 else 2 ^ u 0 + 2 ^ u 1 + 2 ^ u 2
theorem tup_1 : ∀ a : Fin 8, ∀ n : Fin 9, a.val < n.val → 2 ^ a.val < 2 ^ n.val ∧ pop (2 ^ a.val) = 1 ∧ sel (2 ^ a.val) 0 = a.val := by decide +kernel
theorem tup_2 : ∀ a b : Fin 8, ∀ n : Fin 9, a.val < b.val → b.val < n.val → 2 ^ a.val + 2 ^ b.val < 2 ^ n.val ∧ pop (2 ^ a.val + 2 ^ b.val) = 2 ∧ sel (2 ^ a.val + 2 ^ b.val) 0 = a.val ∧ sel (2 ^ a.val + 2 ^ b.val) 1 = b.val := by decide +kernel
theorem tup_3 : ∀ a b c : Fin 8, ∀ n : Fin 9, a.val < b.val → b.val < c.val → c.val < n.val → 2 ^ a.val + 2 ^ b.val + 2 ^ c.val < 2 ^ n.val ∧ pop (2 ^ a.val + 2 ^ b.val + 2 ^ c.val) = 3 ∧ sel (2 ^ a.val + 2 ^ b.val + 2 ^ c.val) 0 = a.val ∧ sel (2 ^ a.val + 2 ^ b.val + 2 ^ c.val) 1 = b.val ∧ sel (2 ^ a.val + 2 ^ b.val + 2 ^ c.val) 2 = c.val := by decide +kernel
theorem bit_all : ∀ x : Fin 256, ∀ k : Fin 8, ((nI x.val >>> (nI k.val &&& nI 31)) &&& nI 1 = nI 1) ↔ x.val.testBit k.val = true := by decide +kernel
theorem pop_all : ∀ x : Fin 256, f_J6_bitCount_0f7a4 (nI x.val) (fun _ _ _ => 0) = some (nI (pop x.val)) := by decide +kernel
theorem bit_I {x k : Nat} (hx : x < 256) (hk : k < 8) : ((nI x >>> (nI k &&& nI 31)) &&& nI 1 = nI 1) = (x.testBit k = true) := propext (bit_all ⟨x, hx⟩ ⟨k, hk⟩)
theorem pop_I {x : Nat} {M : Mem} (hx : x < 256) : f_J6_bitCount_0f7a4 (nI x) M = some (nI (pop x)) := pop_all ⟨x, hx⟩
theorem pop_le {x : Nat} : pop x ≤ 8 := cnt_le 8
theorem cnt_le_of {P : Nat → Bool} {i j : Nat} (h : i ≤ j) : cnt P i ≤ cnt P j := by
  induction j with
  | zero => obtain rfl : i = 0 := by omega
            exact Nat.le_refl _
  | succ j ih =>
    by_cases q : i = j + 1
    · rw [q]; exact Nat.le_refl _
    · have := ih (by omega)
      rw [cnt_s]
      omega
theorem cnt_lt_of {P : Nat → Bool} {i j : Nat} (h : i < j) (hp : P i = true) : cnt P i < cnt P j := by
  have h1 := cnt_le_of (P := P) (show i + 1 ≤ j from h)
  rw [cnt_s, hp] at h1
  simp at h1
  omega
theorem tb_hi {x n k : Nat} (h : x < 2 ^ n) (hk : n ≤ k) : x.testBit k = false := Nat.testBit_lt_two_pow (Nat.lt_of_lt_of_le h (Nat.pow_le_pow_right (by decide) hk))
theorem cnt_tail {P : Nat → Bool} {n m : Nat} (h : n ≤ m) (hp : ∀ k, n ≤ k → k < m → P k = false) : cnt P m = cnt P n := by
  induction m with
  | zero => obtain rfl : n = 0 := by omega
            rfl
  | succ m ih =>
    by_cases q : n = m + 1
    · rw [q]
    · rw [cnt_s, hp m (by omega) (by omega), ih (by omega) (fun k h1 h2 => hp k h1 (by omega))]
      rfl
theorem pow_le {n : Nat} (h : n ≤ 8) : 2 ^ n ≤ 256 := Nat.pow_le_pow_right (show 0 < 2 by decide) h
theorem sel_p {x n j : Nat} (hn : n ≤ 8) (hx : x < 2 ^ n) (hj : j < pop x) : sel x j < n ∧ x.testBit (sel x j) = true ∧ cnt (fun k => x.testBit k) (sel x j) = j := by
  have l := pow_le hn
  have lp := pop_le (x := x)
  obtain ⟨h1, h2, h3⟩ := sel_all ⟨x, by omega⟩ ⟨j, by omega⟩ hj
  refine ⟨?_, h2, h3⟩
  by_cases q : n ≤ sel x j
  · have := tb_hi hx q
    simp only [] at h2
    rw [this] at h2
    cases h2
  · omega
theorem sel_lt {x n i j : Nat} (hn : n ≤ 8) (hx : x < 2 ^ n) (hj : j < pop x) (hij : i < j) : sel x i < sel x j := by
  have l := pow_le hn
  have lp := pop_le (x := x)
  exact sel_lt_all ⟨x, by omega⟩ ⟨j, by omega⟩ ⟨i, by omega⟩ hj hij
/-- the vault's keys, as the class has them -/
def Kc (M : Mem) (g T n : Nat) (s ky : Nat → Nat) : Prop := (M g 1 3 = nI T ∧ (1 ≤ T ∧ T ≤ 3) ∧ T ≤ n ∧ n ≤ 8 ∧ M g 1 5 = nI n) ∧ (∀ k, k < 8 → M g 2 k = nI (s k) ∧ s k ≤ 96) ∧ (∀ k, k < n → M g 4 k = nI (ky k)) ∧ Tu n ky
theorem Kc.frame {M M1 : Mem} {g T n : Nat} {s ky : Nat → Nat} (h : Kc M g T n s ky) (hf : ∀ b, M1 g b = M g b) : Kc M1 g T n s ky := by
  obtain ⟨⟨h1, h2, h3, h4, h5⟩, h6, h7, h8⟩ := h
  exact ⟨⟨by rw [hf]; exact h1, h2, h3, h4, by rw [hf]; exact h5⟩, fun k hk => ⟨by rw [hf]; exact (h6 k hk).1, (h6 k hk).2⟩, fun k hk => by rw [hf]; exact h7 k hk, h8⟩
theorem tu_sel {T n x : Nat} {ky : Nat → Nat} (hu : Tu n ky) (hn : n ≤ 8) (hx : x < 2 ^ n) (hT : T ≤ pop x) : Tu T (fun i => ky (sel x i)) := by
  refine ⟨fun i hi => hu.1 _ (sel_p hn hx (by omega)).1, fun i j h1 h2 => ?_⟩
  exact hu.2 _ _ (sel_lt hn hx (by omega) h1) (sel_p hn hx (by omega)).1
theorem c_choose {M : Mem} {g T n x : Nat} {s ky : Nat → Nat} (h : Kc M g T n s ky) (hg : g ≠ 12) (hx : x < 2 ^ n) : wp (f_X8_choose g (nI x) M) fun _ M1 => (∀ j, j < pop x → M1 12 25 j = nI (ky (sel x j))) ∧ ∀ a b, ¬ (a = 12 ∧ b = 25) → M1 a b = M a b := by
  obtain ⟨⟨h1, h2, h3, h4, h5⟩, h6, h7, h8⟩ := h
  have l := pow_le h4
  unfold f_X8_choose
  generalize hN : (1000 : Nat) = N
  obtain ⟨M2, ⟨hm, hf⟩, key⟩ := mloopP (F := fun m k (M1 : Mem) kk => f_X8_choose_L5 g (nI x) m (nI (cnt (fun k => x.testBit k) k.toNatClampNeg)) k M1 kk) (c := n) (fun k M1 => (∀ j, j < k → x.testBit j = true → M1 12 25 (cnt (fun k => x.testBit k) j) = nI (ky j)) ∧ ∀ a b, ¬ (a = 12 ∧ b = 25) → M1 a b = M a b) (fun m k M1 kk hk hP => by
    obtain ⟨hm, hf⟩ := hP
    have e5 : M1 g 1 5 = nI n := by rw [hf g 1 (by omega)]; exact h5
    have e4 : M1 g 4 k = nI (ky k) := by rw [hf g 4 (by omega)]; exact h7 k hk
    have eb := bit_I (x := x) (k := k) (by omega) (by omega)
    have lc := cnt_le (P := fun k => x.testBit k) k
    cases q : x.testBit k with
    | true =>
      rw [q] at eb
      refine ⟨mup M1 12 25 (cnt (fun k => x.testBit k) k) (nI (ky k)), ⟨fun j hj hb => ?_, fun a b hab => ?_⟩, ?_⟩
      · rw [mup_at]
        by_cases r : j = k
        · subst r
          rw [if_pos (by omega)]
        · have := cnt_lt_of (P := fun k => x.testBit k) (show j < k by omega) hb
          rw [if_neg (by omega)]
          exact hm j (by omega) hb
      · rw [pm_ne (by omega)]
        exact hf a b hab
      · show f_X8_choose_L5 g (nI x) (m + 1) (nI (cnt (fun k => x.testBit k) (nI k).toNatClampNeg)) (nI k) M1 kk = f_X8_choose_L5 g (nI x) m (nI (cnt (fun k => x.testBit k) (nI (k + 1)).toNatClampNeg)) (nI (k + 1)) (mup M1 12 25 (cnt (fun k => x.testBit k) k) (nI (ky k))) kk
        rw [nI_nat (show k < 2147483648 by omega), nI_nat (show k + 1 < 2147483648 by omega), f_X8_choose_L5.eq_2, cnt_s, q]
        generalize cnt (fun k => x.testBit k) k = c at lc ⊢
        simp (disch := omega) only [lit_0, lit_1, lit_2, lit_3, lit_4, lit_5, lit_6, lit_7, lit_8, lit_9, lit_10, lit_11, lit_12, lit_13, lit_14, lit_15, lit_16, lit_20, lit_23, lit_24, lit_31, lit_32, lit_39, lit_43, lit_45, lit_47, lit_48, lit_56, lit_57, lit_59, lit_60, lit_62, lit_63, lit_89, lit_92, lit_96, lit_97, lit_99, lit_100, lit_102, lit_103, lit_104, lit_110, lit_111, lit_115, lit_117, lit_194, lit_200, lit_644, lit_736, lit_999, lit_1000, lit_9999, lit_10000, lit_1000000000, ↓wp_mlet, ↓wp_mbp, ↓wp_ite, ↓wp_mix, ↓wp_mdiv, ↓wp_mnz, ↓wp_some, ↓wp_mbnd, ↓mlet_eq, ↓mbp_eq, ↓mbnd_eq, ↓mix_ite, ↓mdiv_ite, ↓mnz_ite, nI_add, nI_mul, nI_nat, nI_ltE, nI_leE, nI_eqE, nI_eqN, nI_Neq, nI_Nlt, nI_Nle, nI_ltN, nI_leN, ↓reduceIte, ↓Nat.reduceEqDiff, and_f, nt_e, nt_t, nl_t, nl_f, ne_t, ne_f, and_self, or_self, or_true, true_or, or_false, false_or, if_true, if_false, and_true, true_and, and_false, false_and, not_true, not_false_iff, e5, e4, eb, Bool.toNat_true]
    | false =>
      rw [q] at eb
      refine ⟨M1, ⟨fun j hj hb => ?_, hf⟩, ?_⟩
      · by_cases r : j = k
        · subst r
          rw [q] at hb
          cases hb
        · exact hm j (by omega) hb
      · show f_X8_choose_L5 g (nI x) (m + 1) (nI (cnt (fun k => x.testBit k) (nI k).toNatClampNeg)) (nI k) M1 kk = f_X8_choose_L5 g (nI x) m (nI (cnt (fun k => x.testBit k) (nI (k + 1)).toNatClampNeg)) (nI (k + 1)) M1 kk
        rw [nI_nat (show k < 2147483648 by omega), nI_nat (show k + 1 < 2147483648 by omega), f_X8_choose_L5.eq_2, cnt_s, q]
        generalize cnt (fun k => x.testBit k) k = c at lc ⊢
        simp (disch := omega) only [lit_0, lit_1, lit_2, lit_3, lit_4, lit_5, lit_6, lit_7, lit_8, lit_9, lit_10, lit_11, lit_12, lit_13, lit_14, lit_15, lit_16, lit_20, lit_23, lit_24, lit_31, lit_32, lit_39, lit_43, lit_45, lit_47, lit_48, lit_56, lit_57, lit_59, lit_60, lit_62, lit_63, lit_89, lit_92, lit_96, lit_97, lit_99, lit_100, lit_102, lit_103, lit_104, lit_110, lit_111, lit_115, lit_117, lit_194, lit_200, lit_644, lit_736, lit_999, lit_1000, lit_9999, lit_10000, lit_1000000000, ↓wp_mlet, ↓wp_mbp, ↓wp_ite, ↓wp_mix, ↓wp_mdiv, ↓wp_mnz, ↓wp_some, ↓wp_mbnd, ↓mlet_eq, ↓mbp_eq, ↓mbnd_eq, ↓mix_ite, ↓mdiv_ite, ↓mnz_ite, nI_add, nI_mul, nI_nat, nI_ltE, nI_leE, nI_eqE, nI_eqN, nI_Neq, nI_Nlt, nI_Nle, nI_ltN, nI_leN, ↓reduceIte, ↓Nat.reduceEqDiff, and_f, nt_e, nt_t, nl_t, nl_f, ne_t, ne_f, and_self, or_self, or_true, true_or, or_false, false_or, if_true, if_false, and_true, true_and, and_false, false_and, not_true, not_false_iff, e5, e4, eb, Bool.toNat_false, Nat.add_zero, Bool.false_eq_true]) (fun m M1 kk hP => by
    show f_X8_choose_L5 g (nI x) (m + 1) _ (nI n) M1 kk = kk M1
    have e5 : M1 g 1 5 = nI n := by rw [hP.2 g 1 (by omega)]; exact h5
    rw [f_X8_choose_L5.eq_2]
    simp (disch := omega) only [lit_0, lit_1, lit_2, lit_3, lit_4, lit_5, lit_6, lit_7, lit_8, lit_9, lit_10, lit_11, lit_12, lit_13, lit_14, lit_15, lit_16, lit_20, lit_23, lit_24, lit_31, lit_32, lit_39, lit_43, lit_45, lit_47, lit_48, lit_56, lit_57, lit_59, lit_60, lit_62, lit_63, lit_89, lit_92, lit_96, lit_97, lit_99, lit_100, lit_102, lit_103, lit_104, lit_110, lit_111, lit_115, lit_117, lit_194, lit_200, lit_644, lit_736, lit_999, lit_1000, lit_9999, lit_10000, lit_1000000000, ↓wp_mlet, ↓wp_mbp, ↓wp_ite, ↓wp_mix, ↓wp_mdiv, ↓wp_mnz, ↓wp_some, ↓wp_mbnd, ↓mlet_eq, ↓mbp_eq, ↓mbnd_eq, ↓mix_ite, ↓mdiv_ite, ↓mnz_ite, nI_add, nI_mul, nI_nat, nI_ltE, nI_leE, nI_eqE, nI_eqN, nI_Neq, nI_Nlt, nI_Nle, nI_ltN, nI_leN, ↓reduceIte, ↓Nat.reduceEqDiff, and_f, nt_e, nt_t, nl_t, nl_f, ne_t, ne_f, and_self, or_self, or_true, true_or, or_false, false_or, if_true, if_false, and_true, true_and, and_false, false_and, not_true, not_false_iff, e5]) n N 0 M (fun M12 => some ((), M12)) (by omega) (by omega) ⟨fun j hj => by omega, fun _ _ _ => rfl⟩
  have e0 : ∀ k, f_X8_choose_L5 g (nI x) N 0 0 M k = f_X8_choose_L5 g (nI x) N (nI (cnt (fun k => x.testBit k) (nI 0).toNatClampNeg)) (nI 0) M k := fun _ => rfl
  rw [e0, key, wp_some]
  refine ⟨fun j hj => ?_, hf⟩
  obtain ⟨s1, s2, s3⟩ := sel_p h4 hx hj
  have := hm _ s1 s2
  rw [s3] at this
  exact this
/-! THE MOST -/
def mx (f : Nat → Nat) : Nat → Nat
  | 0 => 0
  | k + 1 => if mx f k < f k then f k else mx f k
theorem mx_s {f : Nat → Nat} {k : Nat} : mx f (k + 1) = if mx f k < f k then f k else mx f k := Eq.trans rfl rfl
theorem mx_ge {f : Nat → Nat} : ∀ n k, k < n → f k ≤ mx f n := by
  intro n
  induction n with
  | zero => intro k hk; omega
  | succ n ih =>
    intro k hk
    rw [mx_s]
    by_cases q : k = n
    · subst q
      split <;> omega
    · have := ih k (by omega)
      split <;> omega
theorem mx_le {f : Nat → Nat} {B : Nat} : ∀ n, (∀ k, k < n → f k ≤ B) → mx f n ≤ B := by
  intro n
  induction n with
  | zero => intro _; exact Nat.zero_le _
  | succ n ih =>
    intro h
    have h1 := ih (fun k hk => h k (by omega))
    have h2 := h n (by omega)
    rw [mx_s]
    split <;> omega
/-- how many keys are on the curve through the keys at places u -/
def onN (T n : Nat) (s ky u : Nat → Nat) : Nat := cnt (fun k => onC T s (fun i => ky (u i)) (ky k)) n
theorem onN_le {T n : Nat} {s ky u : Nat → Nat} : onN T n s ky u ≤ n := cnt_le n
def fC (T n : Nat) (s ky : Nat → Nat) (x : Nat) : Nat := if pop x = T then onN T n s ky (sel x) else 0
theorem fC_at {T n : Nat} {s ky : Nat → Nat} {x : Nat} : fC T n s ky x = if pop x = T then onN T n s ky (sel x) else 0 := Eq.trans rfl rfl
def fS (T : Nat) (s ky : Nat → Nat) (x : Nat) : Nat := if pop x ≤ T ∨ one T s (fun i => ky (sel x i)) (pop x) = true then pop x else 0
theorem fS_at {T : Nat} {s ky : Nat → Nat} {x : Nat} : fS T s ky x = if pop x ≤ T ∨ one T s (fun i => ky (sel x i)) (pop x) = true then pop x else 0 := Eq.trans rfl rfl
theorem fS_0 {T : Nat} {s ky : Nat → Nat} : fS T s ky 0 = 0 := by
  rw [fS_at]
  split <;> rfl
theorem fC_le {T n : Nat} {s ky : Nat → Nat} {x : Nat} : fC T n s ky x ≤ n := by
  rw [fC_at]
  split
  · exact onN_le
  · exact Nat.zero_le _
theorem fS_le {T : Nat} {s ky : Nat → Nat} {x : Nat} : fS T s ky x ≤ 8 := by
  rw [fS_at]
  split
  · exact pop_le
  · exact Nat.zero_le _
theorem Lk_sel {M : Mem} {g T n x : Nat} {s ky : Nat → Nat} (h : Kc M g T n s ky) (hx : x < 2 ^ n) (hT : T ≤ pop x) (hm : ∀ j, j < pop x → M 12 25 j = nI (ky (sel x j))) : Lk M g 12 25 T s (fun i => ky (sel x i)) := by
  obtain ⟨⟨h1, h2, h3, h4, h5⟩, h6, h7, h8⟩ := h
  exact ⟨h1, h2, h6, fun i hi => hm i (by omega), tu_sel h8 h4 hx hT⟩
theorem c_mostC {M : Mem} {g T n : Nat} {s ky : Nat → Nat} (h : Kc M g T n s ky) (hg : g ≠ 12) : wp (f_X8_mostOnCurves g M) fun r M1 => r = nI (mx (fC T n s ky) (2 ^ n)) ∧ ∀ a b, ¬ (a = 12 ∧ 21 ≤ b ∧ b ≤ 25) → M1 a b = M a b := by
  obtain ⟨⟨h1, h2, h3, h4, h5⟩, h6, h7, h8⟩ := id h
  have l := pow_le h4
  have l0 : 0 < 2 ^ n := Nat.pow_pos (by decide)
  unfold f_X8_mostOnCurves
  generalize hN : (1000 : Nat) = N
  obtain ⟨P, hP⟩ : ∃ P, 2 ^ n = P := ⟨_, rfl⟩
  rw [hP] at l l0 ⊢
  obtain ⟨s2, ⟨hv, -, hf⟩, key⟩ := mloopP (F := fun m x (s2 : Int32 × Mem) kk => f_X8_mostOnCurves_L4 g m s2.1 x s2.2 (fun a b => kk (a, b))) (c := P) (fun x s2 => s2.1 = nI (mx (fC T n s ky) x) ∧ 1 ≤ x ∧ ∀ a b, ¬ (a = 12 ∧ 21 ≤ b ∧ b ≤ 25) → s2.2 a b = M a b) (fun m x s2 kk hx hP2 => by
    obtain ⟨v, M1⟩ := s2
    obtain ⟨hv, x1, hf⟩ := hP2
    simp only [] at hv x1 hf
    subst hv
    have hK1 : Kc M1 g T n s ky := h.frame (fun b => hf g b (by omega))
    have e5 : M1 g 1 5 = nI n := hK1.1.2.2.2.2
    have e3 : M1 g 1 3 = nI T := hK1.1.1
    have lp := pop_le (x := x)
    have lm : mx (fC T n s ky) x ≤ 8 := Nat.le_trans (mx_le x (fun k _ => fC_le)) h4
    have ep := fun M => pop_I (x := x) (M := M) (by omega)
    have e6 := nI_shl1 (a := n) (by omega)
    rw [hP] at e6
    by_cases q : pop x = T
    · obtain ⟨⟨⟩, M3, c1, c2, c3⟩ := c_choose hK1 hg (x := x) (by omega)
      have hK3 : Kc M3 g T n s ky := hK1.frame (fun b => c3 g b (by omega))
      have hl := Lk_sel hK3 (x := x) (by omega) (by omega) c2
      obtain ⟨⟨⟩, M4, d1, d2, d3⟩ := c_fit hl hg (by decide)
      have hK4 : Kc M4 g T n s ky := hK3.frame (fun b => d3 g b (by omega))
      have e7 := c_count (T := T) (s := s) (t := fun i => ky (sel x i)) (ky := ky) (n := n) hK4.1.2.2.2.2 h4 (fun k hk => ⟨hK4.2.2.1 k hk, h8.1 k hk⟩) hK4.2.1 d2
      have ef : fC T n s ky x = cnt (fun k => onC T s (fun i => ky (sel x i)) (ky k)) n := by rw [fC_at, if_pos q]; rfl
      have lc : cnt (fun k => onC T s (fun i => ky (sel x i)) (ky k)) n ≤ n := cnt_le n
      refine ⟨(nI (mx (fC T n s ky) (x + 1)), M4), ⟨rfl, by omega, fun a b hab => ?_⟩, ?_⟩
      · show M4 a b = M a b
        rw [d3 a b (by omega), c3 a b (by omega), hf a b hab]
      · show f_X8_mostOnCurves_L4 g (m + 1) (nI (mx (fC T n s ky) x)) (nI x) M1 _ = f_X8_mostOnCurves_L4 g m (nI (mx (fC T n s ky) (x + 1))) (nI (x + 1)) M4 _
        rw [f_X8_mostOnCurves_L4.eq_2, mx_s, ef]
        generalize cnt (fun k => onC T s (fun i => ky (sel x i)) (ky k)) n = c at lc e7 ⊢
        generalize mx (fC T n s ky) x = d at lm ⊢
        by_cases r : d < c
        · simp (disch := omega) only [lit_0, lit_1, lit_2, lit_3, lit_4, lit_5, lit_6, lit_7, lit_8, lit_9, lit_10, lit_11, lit_12, lit_13, lit_14, lit_15, lit_16, lit_20, lit_23, lit_24, lit_31, lit_32, lit_39, lit_43, lit_45, lit_47, lit_48, lit_56, lit_57, lit_59, lit_60, lit_62, lit_63, lit_89, lit_92, lit_96, lit_97, lit_99, lit_100, lit_102, lit_103, lit_104, lit_110, lit_111, lit_115, lit_117, lit_194, lit_200, lit_644, lit_736, lit_999, lit_1000, lit_9999, lit_10000, lit_1000000000, ↓wp_mlet, ↓wp_mbp, ↓wp_ite, ↓wp_mix, ↓wp_mdiv, ↓wp_mnz, ↓wp_some, ↓wp_mbnd, ↓mlet_eq, ↓mbp_eq, ↓mbnd_eq, ↓mix_ite, ↓mdiv_ite, ↓mnz_ite, nI_add, nI_mul, nI_nat, nI_ltE, nI_leE, nI_eqE, nI_eqN, nI_Neq, nI_Nlt, nI_Nle, nI_ltN, nI_leN, ↓reduceIte, ↓Nat.reduceEqDiff, and_f, nt_e, nt_t, nl_t, nl_f, ne_t, ne_f, and_self, or_self, or_true, true_or, or_false, false_or, if_true, if_false, and_true, true_and, and_false, false_and, not_true, not_false_iff, e5, e6, ep, e3, c1, d1, e7]
        · simp (disch := omega) only [lit_0, lit_1, lit_2, lit_3, lit_4, lit_5, lit_6, lit_7, lit_8, lit_9, lit_10, lit_11, lit_12, lit_13, lit_14, lit_15, lit_16, lit_20, lit_23, lit_24, lit_31, lit_32, lit_39, lit_43, lit_45, lit_47, lit_48, lit_56, lit_57, lit_59, lit_60, lit_62, lit_63, lit_89, lit_92, lit_96, lit_97, lit_99, lit_100, lit_102, lit_103, lit_104, lit_110, lit_111, lit_115, lit_117, lit_194, lit_200, lit_644, lit_736, lit_999, lit_1000, lit_9999, lit_10000, lit_1000000000, ↓wp_mlet, ↓wp_mbp, ↓wp_ite, ↓wp_mix, ↓wp_mdiv, ↓wp_mnz, ↓wp_some, ↓wp_mbnd, ↓mlet_eq, ↓mbp_eq, ↓mbnd_eq, ↓mix_ite, ↓mdiv_ite, ↓mnz_ite, nI_add, nI_mul, nI_nat, nI_ltE, nI_leE, nI_eqE, nI_eqN, nI_Neq, nI_Nlt, nI_Nle, nI_ltN, nI_leN, ↓reduceIte, ↓Nat.reduceEqDiff, and_f, nt_e, nt_t, nl_t, nl_f, ne_t, ne_f, and_self, or_self, or_true, true_or, or_false, false_or, if_true, if_false, and_true, true_and, and_false, false_and, not_true, not_false_iff, e5, e6, ep, e3, c1, d1, e7]
    · have ef : fC T n s ky x = 0 := by rw [fC_at, if_neg q]
      refine ⟨(nI (mx (fC T n s ky) (x + 1)), M1), ⟨rfl, by omega, hf⟩, ?_⟩
      show f_X8_mostOnCurves_L4 g (m + 1) (nI (mx (fC T n s ky) x)) (nI x) M1 _ = f_X8_mostOnCurves_L4 g m (nI (mx (fC T n s ky) (x + 1))) (nI (x + 1)) M1 _
      rw [f_X8_mostOnCurves_L4.eq_2, mx_s, ef, if_neg (Nat.not_lt_zero _)]
      generalize mx (fC T n s ky) x = d at lm ⊢
      simp (disch := omega) only [lit_0, lit_1, lit_2, lit_3, lit_4, lit_5, lit_6, lit_7, lit_8, lit_9, lit_10, lit_11, lit_12, lit_13, lit_14, lit_15, lit_16, lit_20, lit_23, lit_24, lit_31, lit_32, lit_39, lit_43, lit_45, lit_47, lit_48, lit_56, lit_57, lit_59, lit_60, lit_62, lit_63, lit_89, lit_92, lit_96, lit_97, lit_99, lit_100, lit_102, lit_103, lit_104, lit_110, lit_111, lit_115, lit_117, lit_194, lit_200, lit_644, lit_736, lit_999, lit_1000, lit_9999, lit_10000, lit_1000000000, ↓wp_mlet, ↓wp_mbp, ↓wp_ite, ↓wp_mix, ↓wp_mdiv, ↓wp_mnz, ↓wp_some, ↓wp_mbnd, ↓mlet_eq, ↓mbp_eq, ↓mbnd_eq, ↓mix_ite, ↓mdiv_ite, ↓mnz_ite, nI_add, nI_mul, nI_nat, nI_ltE, nI_leE, nI_eqE, nI_eqN, nI_Neq, nI_Nlt, nI_Nle, nI_ltN, nI_leN, ↓reduceIte, ↓Nat.reduceEqDiff, and_f, nt_e, nt_t, nl_t, nl_f, ne_t, ne_f, and_self, or_self, or_true, true_or, or_false, false_or, if_true, if_false, and_true, true_and, and_false, false_and, not_true, not_false_iff, e5, e6, ep, e3]) (fun m s2 kk hP2 => by
    obtain ⟨v, M1⟩ := s2
    have hK1 : Kc M1 g T n s ky := h.frame (fun b => hP2.2.2 g b (by omega))
    have e5 : M1 g 1 5 = nI n := hK1.1.2.2.2.2
    have e6 := nI_shl1 (a := n) (by omega)
    rw [hP] at e6
    show f_X8_mostOnCurves_L4 g (m + 1) v (nI P) M1 (fun a b => kk (a, b)) = kk (v, M1)
    rw [f_X8_mostOnCurves_L4.eq_2]
    simp (disch := omega) only [lit_0, lit_1, lit_2, lit_3, lit_4, lit_5, lit_6, lit_7, lit_8, lit_9, lit_10, lit_11, lit_12, lit_13, lit_14, lit_15, lit_16, lit_20, lit_23, lit_24, lit_31, lit_32, lit_39, lit_43, lit_45, lit_47, lit_48, lit_56, lit_57, lit_59, lit_60, lit_62, lit_63, lit_89, lit_92, lit_96, lit_97, lit_99, lit_100, lit_102, lit_103, lit_104, lit_110, lit_111, lit_115, lit_117, lit_194, lit_200, lit_644, lit_736, lit_999, lit_1000, lit_9999, lit_10000, lit_1000000000, ↓wp_mlet, ↓wp_mbp, ↓wp_ite, ↓wp_mix, ↓wp_mdiv, ↓wp_mnz, ↓wp_some, ↓wp_mbnd, ↓mlet_eq, ↓mbp_eq, ↓mbnd_eq, ↓mix_ite, ↓mdiv_ite, ↓mnz_ite, nI_add, nI_mul, nI_nat, nI_ltE, nI_leE, nI_eqE, nI_eqN, nI_Neq, nI_Nlt, nI_Nle, nI_ltN, nI_leN, ↓reduceIte, ↓Nat.reduceEqDiff, and_f, nt_e, nt_t, nl_t, nl_f, ne_t, ne_f, and_self, or_self, or_true, true_or, or_false, false_or, if_true, if_false, and_true, true_and, and_false, false_and, not_true, not_false_iff, e5, e6]) (P - 1) N 1 (nI 0, M) (fun s2 => some (s2.1, s2.2)) (by omega) (by omega) ⟨by rw [mx_s, fC_at, if_neg (show pop 0 ≠ T by show 0 ≠ T; omega)]; rfl, by omega, fun _ _ _ => rfl⟩
  have e0 : f_X8_mostOnCurves_L4 g N 0 1 M (fun x17 M18 => some (x17, M18)) = f_X8_mostOnCurves_L4 g N (nI 0) (nI 1) M (fun a b => some (a, b)) := rfl
  rw [e0, key, wp_some]
  exact ⟨hv, hf⟩
theorem c_mostS {M : Mem} {g T n : Nat} {s ky : Nat → Nat} (h : Kc M g T n s ky) (hg : g ≠ 12) : wp (f_X8_mostInSets g M) fun r M1 => r = nI (mx (fS T s ky) (2 ^ n)) ∧ ∀ a b, ¬ (a = 12 ∧ 21 ≤ b ∧ b ≤ 25) → M1 a b = M a b := by
  obtain ⟨⟨h1, h2, h3, h4, h5⟩, h6, h7, h8⟩ := id h
  have l := pow_le h4
  have l0 : 0 < 2 ^ n := Nat.pow_pos (by decide)
  unfold f_X8_mostInSets
  generalize hN : (1000 : Nat) = N
  obtain ⟨P, hP⟩ : ∃ P, 2 ^ n = P := ⟨_, rfl⟩
  rw [hP] at l l0 ⊢
  obtain ⟨s2, ⟨hv, -, hf⟩, key⟩ := mloopP (F := fun m x (s2 : Int32 × Mem) kk => f_X8_mostInSets_L4 g m s2.1 x s2.2 (fun a b => kk (a, b))) (c := P) (fun x s2 => s2.1 = nI (mx (fS T s ky) x) ∧ 1 ≤ x ∧ ∀ a b, ¬ (a = 12 ∧ 21 ≤ b ∧ b ≤ 25) → s2.2 a b = M a b) (fun m x s2 kk hx hP2 => by
    obtain ⟨v, M1⟩ := s2
    obtain ⟨hv, x1, hf⟩ := hP2
    simp only [] at hv x1 hf
    subst hv
    have hK1 : Kc M1 g T n s ky := h.frame (fun b => hf g b (by omega))
    have e5 : M1 g 1 5 = nI n := hK1.1.2.2.2.2
    have e3 : M1 g 1 3 = nI T := hK1.1.1
    have lp := pop_le (x := x)
    have lm : mx (fS T s ky) x ≤ 8 := mx_le x (fun k _ => fS_le)
    have ep := fun M => pop_I (x := x) (M := M) (by omega)
    have e6 := nI_shl1 (a := n) (by omega)
    rw [hP] at e6
    generalize hd : mx (fS T s ky) x = d at lm
    by_cases r : pop x ≤ d
    · have ef : ¬ d < fS T s ky x := by
        rw [fS_at]
        split <;> omega
      refine ⟨(nI (mx (fS T s ky) (x + 1)), M1), ⟨rfl, by omega, hf⟩, ?_⟩
      show f_X8_mostInSets_L4 g (m + 1) (nI d) (nI x) M1 _ = f_X8_mostInSets_L4 g m (nI (mx (fS T s ky) (x + 1))) (nI (x + 1)) M1 _
      rw [f_X8_mostInSets_L4.eq_2, mx_s, hd, if_neg ef]
      simp (disch := omega) only [lit_0, lit_1, lit_2, lit_3, lit_4, lit_5, lit_6, lit_7, lit_8, lit_9, lit_10, lit_11, lit_12, lit_13, lit_14, lit_15, lit_16, lit_20, lit_23, lit_24, lit_31, lit_32, lit_39, lit_43, lit_45, lit_47, lit_48, lit_56, lit_57, lit_59, lit_60, lit_62, lit_63, lit_89, lit_92, lit_96, lit_97, lit_99, lit_100, lit_102, lit_103, lit_104, lit_110, lit_111, lit_115, lit_117, lit_194, lit_200, lit_644, lit_736, lit_999, lit_1000, lit_9999, lit_10000, lit_1000000000, ↓wp_mlet, ↓wp_mbp, ↓wp_ite, ↓wp_mix, ↓wp_mdiv, ↓wp_mnz, ↓wp_some, ↓wp_mbnd, ↓mlet_eq, ↓mbp_eq, ↓mbnd_eq, ↓mix_ite, ↓mdiv_ite, ↓mnz_ite, nI_add, nI_mul, nI_nat, nI_ltE, nI_leE, nI_eqE, nI_eqN, nI_Neq, nI_Nlt, nI_Nle, nI_ltN, nI_leN, ↓reduceIte, ↓Nat.reduceEqDiff, and_f, nt_e, nt_t, nl_t, nl_f, ne_t, ne_f, and_self, or_self, or_true, true_or, or_false, false_or, if_true, if_false, and_true, true_and, and_false, false_and, not_true, not_false_iff, e5, e6, ep]
    · obtain ⟨⟨⟩, M3, c1, c2, c3⟩ := c_choose hK1 hg (x := x) (by omega)
      have hK3 : Kc M3 g T n s ky := hK1.frame (fun b => c3 g b (by omega))
      have hf3 : ∀ a b, ¬ (a = 12 ∧ 21 ≤ b ∧ b ≤ 25) → M3 a b = M a b := fun a b hab => by rw [c3 a b (by omega), hf a b hab]
      by_cases q : pop x ≤ T
      · have e7 := c_oneS (ga := 12) (ia := 25) hK3.1.1 h2.2 q
        have ef : fS T s ky x = pop x := by rw [fS_at, if_pos (Or.inl q)]
        refine ⟨(nI (mx (fS T s ky) (x + 1)), M3), ⟨rfl, by omega, hf3⟩, ?_⟩
        show f_X8_mostInSets_L4 g (m + 1) (nI d) (nI x) M1 _ = f_X8_mostInSets_L4 g m (nI (mx (fS T s ky) (x + 1))) (nI (x + 1)) M3 _
        rw [f_X8_mostInSets_L4.eq_2, mx_s, hd, ef, if_pos (show d < pop x by omega)]
        simp (disch := omega) only [lit_0, lit_1, lit_2, lit_3, lit_4, lit_5, lit_6, lit_7, lit_8, lit_9, lit_10, lit_11, lit_12, lit_13, lit_14, lit_15, lit_16, lit_20, lit_23, lit_24, lit_31, lit_32, lit_39, lit_43, lit_45, lit_47, lit_48, lit_56, lit_57, lit_59, lit_60, lit_62, lit_63, lit_89, lit_92, lit_96, lit_97, lit_99, lit_100, lit_102, lit_103, lit_104, lit_110, lit_111, lit_115, lit_117, lit_194, lit_200, lit_644, lit_736, lit_999, lit_1000, lit_9999, lit_10000, lit_1000000000, ↓wp_mlet, ↓wp_mbp, ↓wp_ite, ↓wp_mix, ↓wp_mdiv, ↓wp_mnz, ↓wp_some, ↓wp_mbnd, ↓mlet_eq, ↓mbp_eq, ↓mbnd_eq, ↓mix_ite, ↓mdiv_ite, ↓mnz_ite, nI_add, nI_mul, nI_nat, nI_ltE, nI_leE, nI_eqE, nI_eqN, nI_Neq, nI_Nlt, nI_Nle, nI_ltN, nI_leN, ↓reduceIte, ↓Nat.reduceEqDiff, and_f, nt_e, nt_t, nl_t, nl_f, ne_t, ne_f, and_self, or_self, or_true, true_or, or_false, false_or, if_true, if_false, and_true, true_and, and_false, false_and, not_true, not_false_iff, e5, e6, ep, c1, e7]
      · have hl := Lk_sel hK3 (x := x) (by omega) (by omega) c2
        have e7 := c_one hl (show T ≤ pop x by omega) lp (fun k hk => ⟨c2 k hk, h8.1 _ (sel_p h4 (by omega) hk).1⟩)
        cases q2 : one T s (fun i => ky (sel x i)) (pop x) with
        | true =>
          have ef : fS T s ky x = pop x := by rw [fS_at, if_pos (Or.inr q2)]
          rw [q2] at e7
          refine ⟨(nI (mx (fS T s ky) (x + 1)), M3), ⟨rfl, by omega, hf3⟩, ?_⟩
          show f_X8_mostInSets_L4 g (m + 1) (nI d) (nI x) M1 _ = f_X8_mostInSets_L4 g m (nI (mx (fS T s ky) (x + 1))) (nI (x + 1)) M3 _
          rw [f_X8_mostInSets_L4.eq_2, mx_s, hd, ef, if_pos (show d < pop x by omega)]
          simp (disch := omega) only [lit_0, lit_1, lit_2, lit_3, lit_4, lit_5, lit_6, lit_7, lit_8, lit_9, lit_10, lit_11, lit_12, lit_13, lit_14, lit_15, lit_16, lit_20, lit_23, lit_24, lit_31, lit_32, lit_39, lit_43, lit_45, lit_47, lit_48, lit_56, lit_57, lit_59, lit_60, lit_62, lit_63, lit_89, lit_92, lit_96, lit_97, lit_99, lit_100, lit_102, lit_103, lit_104, lit_110, lit_111, lit_115, lit_117, lit_194, lit_200, lit_644, lit_736, lit_999, lit_1000, lit_9999, lit_10000, lit_1000000000, ↓wp_mlet, ↓wp_mbp, ↓wp_ite, ↓wp_mix, ↓wp_mdiv, ↓wp_mnz, ↓wp_some, ↓wp_mbnd, ↓mlet_eq, ↓mbp_eq, ↓mbnd_eq, ↓mix_ite, ↓mdiv_ite, ↓mnz_ite, nI_add, nI_mul, nI_nat, nI_ltE, nI_leE, nI_eqE, nI_eqN, nI_Neq, nI_Nlt, nI_Nle, nI_ltN, nI_leN, ↓reduceIte, ↓Nat.reduceEqDiff, and_f, nt_e, nt_t, nl_t, nl_f, ne_t, ne_f, and_self, or_self, or_true, true_or, or_false, false_or, if_true, if_false, and_true, true_and, and_false, false_and, not_true, not_false_iff, e5, e6, ep, c1, e7, Bool.toNat_true]
        | false =>
          have ef : fS T s ky x = 0 := by rw [fS_at, if_neg (by rw [q2]; simp; omega)]
          rw [q2] at e7
          refine ⟨(nI (mx (fS T s ky) (x + 1)), M3), ⟨rfl, by omega, hf3⟩, ?_⟩
          show f_X8_mostInSets_L4 g (m + 1) (nI d) (nI x) M1 _ = f_X8_mostInSets_L4 g m (nI (mx (fS T s ky) (x + 1))) (nI (x + 1)) M3 _
          rw [f_X8_mostInSets_L4.eq_2, mx_s, hd, ef, if_neg (show ¬ d < 0 by omega)]
          simp (disch := omega) only [lit_0, lit_1, lit_2, lit_3, lit_4, lit_5, lit_6, lit_7, lit_8, lit_9, lit_10, lit_11, lit_12, lit_13, lit_14, lit_15, lit_16, lit_20, lit_23, lit_24, lit_31, lit_32, lit_39, lit_43, lit_45, lit_47, lit_48, lit_56, lit_57, lit_59, lit_60, lit_62, lit_63, lit_89, lit_92, lit_96, lit_97, lit_99, lit_100, lit_102, lit_103, lit_104, lit_110, lit_111, lit_115, lit_117, lit_194, lit_200, lit_644, lit_736, lit_999, lit_1000, lit_9999, lit_10000, lit_1000000000, ↓wp_mlet, ↓wp_mbp, ↓wp_ite, ↓wp_mix, ↓wp_mdiv, ↓wp_mnz, ↓wp_some, ↓wp_mbnd, ↓mlet_eq, ↓mbp_eq, ↓mbnd_eq, ↓mix_ite, ↓mdiv_ite, ↓mnz_ite, nI_add, nI_mul, nI_nat, nI_ltE, nI_leE, nI_eqE, nI_eqN, nI_Neq, nI_Nlt, nI_Nle, nI_ltN, nI_leN, ↓reduceIte, ↓Nat.reduceEqDiff, and_f, nt_e, nt_t, nl_t, nl_f, ne_t, ne_f, and_self, or_self, or_true, true_or, or_false, false_or, if_true, if_false, and_true, true_and, and_false, false_and, not_true, not_false_iff, e5, e6, ep, c1, e7, Bool.toNat_false]) (fun m s2 kk hP2 => by
    obtain ⟨v, M1⟩ := s2
    have hK1 : Kc M1 g T n s ky := h.frame (fun b => hP2.2.2 g b (by omega))
    have e5 : M1 g 1 5 = nI n := hK1.1.2.2.2.2
    have e6 := nI_shl1 (a := n) (by omega)
    rw [hP] at e6
    show f_X8_mostInSets_L4 g (m + 1) v (nI P) M1 (fun a b => kk (a, b)) = kk (v, M1)
    rw [f_X8_mostInSets_L4.eq_2]
    simp (disch := omega) only [lit_0, lit_1, lit_2, lit_3, lit_4, lit_5, lit_6, lit_7, lit_8, lit_9, lit_10, lit_11, lit_12, lit_13, lit_14, lit_15, lit_16, lit_20, lit_23, lit_24, lit_31, lit_32, lit_39, lit_43, lit_45, lit_47, lit_48, lit_56, lit_57, lit_59, lit_60, lit_62, lit_63, lit_89, lit_92, lit_96, lit_97, lit_99, lit_100, lit_102, lit_103, lit_104, lit_110, lit_111, lit_115, lit_117, lit_194, lit_200, lit_644, lit_736, lit_999, lit_1000, lit_9999, lit_10000, lit_1000000000, ↓wp_mlet, ↓wp_mbp, ↓wp_ite, ↓wp_mix, ↓wp_mdiv, ↓wp_mnz, ↓wp_some, ↓wp_mbnd, ↓mlet_eq, ↓mbp_eq, ↓mbnd_eq, ↓mix_ite, ↓mdiv_ite, ↓mnz_ite, nI_add, nI_mul, nI_nat, nI_ltE, nI_leE, nI_eqE, nI_eqN, nI_Neq, nI_Nlt, nI_Nle, nI_ltN, nI_leN, ↓reduceIte, ↓Nat.reduceEqDiff, and_f, nt_e, nt_t, nl_t, nl_f, ne_t, ne_f, and_self, or_self, or_true, true_or, or_false, false_or, if_true, if_false, and_true, true_and, and_false, false_and, not_true, not_false_iff, e5, e6]) (P - 1) N 1 (nI 0, M) (fun s2 => some (s2.1, s2.2)) (by omega) (by omega) ⟨by rw [mx_s, fS_0]; rfl, by omega, fun _ _ _ => rfl⟩
  have e0 : f_X8_mostInSets_L4 g N 0 1 M (fun x15 M16 => some (x15, M16)) = f_X8_mostInSets_L4 g N (nI 0) (nI 1) M (fun a b => some (a, b)) := rfl
  rw [e0, key, wp_some]
  exact ⟨hv, hf⟩
/-! THE MODEL'S MOST -/
theorem mx_zero {f : Nat → Nat} {n : Nat} (h : ∀ k, k < n → f k = 0) : mx f n = 0 := Nat.le_zero.mp (mx_le n (fun k hk => Nat.le_of_eq (h k hk)))
def ut (u : Nat → Nat) (c k : Nat) : Nat → Nat := fun i => if i = c then k else u i
theorem ut_at {u : Nat → Nat} {c k i : Nat} : ut u c k i = if i = c then k else u i := Eq.trans rfl rfl
def wv (n : Nat) (F : (Nat → Nat) → Nat) : Nat → Nat → Nat → (Nat → Nat) → Nat
  | 0, _, _, u => F u
  | d + 1, c, lo, u => mx (fun k => if lo ≤ k then wv n F d (c + 1) (k + 1) (ut u c k) else 0) n
theorem wv_s {n : Nat} {F : (Nat → Nat) → Nat} {d c lo : Nat} {u : Nat → Nat} : wv n F (d + 1) c lo u = mx (fun k => if lo ≤ k then wv n F d (c + 1) (k + 1) (ut u c k) else 0) n := Eq.trans rfl rfl
theorem wv_le {n B : Nat} {F : (Nat → Nat) → Nat} (hF : ∀ u, F u ≤ B) : ∀ d c lo u, wv n F d c lo u ≤ B
  | 0, _, _, u => hF u
  | d + 1, c, lo, u => by
    rw [wv_s]
    refine mx_le n (fun k _ => ?_)
    split
    · exact wv_le hF d _ _ _
    · exact Nat.zero_le _
/-- the vault's keys, as the model has them -/
def Km (M : Mem) (T n : Nat) (s ky : Nat → Nat) : Prop := (M 12 48 5 = nI T ∧ (1 ≤ T ∧ T ≤ 3) ∧ T ≤ n ∧ n ≤ 8 ∧ M 12 48 9 = nI n) ∧ (∀ k, k < 8 → M 12 48 (15 + k) = nI (s k) ∧ s k ≤ 96) ∧ (∀ k, k < n → M 12 48 (23 + k) = nI (ky k)) ∧ Tu n ky
theorem Km.frame {M M1 : Mem} {T n : Nat} {s ky : Nat → Nat} (h : Km M T n s ky) (hf : M1 12 48 = M 12 48) : Km M1 T n s ky := by
  unfold Km
  rw [hf]
  exact h
/-- c places chosen, below lo -/
def Cho (M : Mem) (c lo : Nat) (ky u : Nat → Nat) : Prop := (∀ i, i < c → M 12 56 i = nI (ky (u i)) ∧ u i < lo) ∧ ∀ i j, i < j → j < c → u i < u j
def Fr (c : Nat) (M M1 : Mem) : Prop := ∀ a b k, ¬ (a = 12 ∧ b = 56 ∧ c ≤ k) → M1 a b k = M a b k
theorem Cho.lm {M : Mem} {T n lo : Nat} {s ky u : Nat → Nat} (h : Km M T n s ky) (hc : Cho M T lo ky u) (hlo : lo ≤ n) : Lm M T s (fun i => ky (u i)) := by
  obtain ⟨⟨h1, h2, h3, h4, h5⟩, h6, h7, h8⟩ := h
  obtain ⟨c1, c2⟩ := hc
  refine ⟨h1, h2, h6, fun i hi => (c1 i hi).1, fun i hi => h8.1 _ (by have := (c1 i hi).2; omega), fun i j h1 h2 => h8.2 _ _ (c2 i j h1 h2) (by have := (c1 j h2).2; omega)⟩
theorem m_base {M : Mem} {T n lo : Nat} {s ky u : Nat → Nat} (h : Km M T n s ky) (hc : Cho M T lo ky u) (hlo : lo ≤ n) : f_X12_onIt M = some (nI (onN T n s ky u)) :=
  m_onIt (hc.lm h hlo) h.1.2.2.2.2 h.1.2.2.2.1 (fun k hk => ⟨h.2.2.1 k hk, h.2.2.2.1 k hk⟩)
theorem m_most0 {M : Mem} {T n lo : Nat} {s ky u : Nat → Nat} (h : Km M T n s ky) (hT : 3 ≤ T) (hc : Cho M 3 lo ky u) (hlo : lo ≤ n) : wp (f_X12_most_0 (nI 3) (nI lo) M) fun r M1 => r = nI (wv n (onN T n s ky) (T - 3) 3 lo u) ∧ Fr 3 M M1 := by
  obtain rfl : T = 3 := by have := h.1.2.1.2; omega
  have e := m_base h hc hlo
  have e5 := h.1.1
  unfold f_X12_most_0
  simp (disch := omega) only [lit_0, lit_1, lit_2, lit_3, lit_4, lit_5, lit_6, lit_7, lit_8, lit_9, lit_10, lit_11, lit_12, lit_13, lit_14, lit_15, lit_16, lit_20, lit_23, lit_24, lit_31, lit_32, lit_39, lit_43, lit_45, lit_47, lit_48, lit_56, lit_57, lit_59, lit_60, lit_62, lit_63, lit_89, lit_92, lit_96, lit_97, lit_99, lit_100, lit_102, lit_103, lit_104, lit_110, lit_111, lit_115, lit_117, lit_194, lit_200, lit_644, lit_736, lit_999, lit_1000, lit_9999, lit_10000, lit_1000000000, ↓wp_mlet, ↓wp_mbp, ↓wp_ite, ↓wp_mix, ↓wp_mdiv, ↓wp_mnz, ↓wp_some, ↓wp_mbnd, ↓mlet_eq, ↓mbp_eq, ↓mbnd_eq, ↓mix_ite, ↓mdiv_ite, ↓mnz_ite, nI_add, nI_mul, nI_nat, nI_ltE, nI_leE, nI_eqE, nI_eqN, nI_Neq, nI_Nlt, nI_Nle, nI_ltN, nI_leN, ↓reduceIte, ↓Nat.reduceEqDiff, and_f, nt_e, nt_t, nl_t, nl_f, ne_t, ne_f, and_self, or_self, or_true, true_or, or_false, false_or, if_true, if_false, and_true, true_and, and_false, false_and, not_true, not_false_iff, e5, e]
  exact ⟨rfl, fun _ _ _ _ => rfl⟩
theorem m_most1 {M : Mem} {T n lo : Nat} {s ky u : Nat → Nat} (h : Km M T n s ky) (hT : 2 ≤ T) (hc : Cho M 2 lo ky u) (hlo : lo ≤ n) : wp (f_X12_most_1 (nI 2) (nI lo) M) fun r M1 => r = nI (wv n (onN T n s ky) (T - 2) 2 lo u) ∧ Fr 2 M M1 := by
  have e5 := h.1.1
  have hT3 := h.1.2.1.2
  have hn8 := h.1.2.2.2.1
  unfold f_X12_most_1
  generalize hN : (1000 : Nat) = N
  by_cases q : T = 2
  · have e := m_base (T := T) h (by rw [q]; exact hc) hlo
    simp (disch := omega) only [lit_0, lit_1, lit_2, lit_3, lit_4, lit_5, lit_6, lit_7, lit_8, lit_9, lit_10, lit_11, lit_12, lit_13, lit_14, lit_15, lit_16, lit_20, lit_23, lit_24, lit_31, lit_32, lit_39, lit_43, lit_45, lit_47, lit_48, lit_56, lit_57, lit_59, lit_60, lit_62, lit_63, lit_89, lit_92, lit_96, lit_97, lit_99, lit_100, lit_102, lit_103, lit_104, lit_110, lit_111, lit_115, lit_117, lit_194, lit_200, lit_644, lit_736, lit_999, lit_1000, lit_9999, lit_10000, lit_1000000000, ↓wp_mlet, ↓wp_mbp, ↓wp_ite, ↓wp_mix, ↓wp_mdiv, ↓wp_mnz, ↓wp_some, ↓wp_mbnd, ↓mlet_eq, ↓mbp_eq, ↓mbnd_eq, ↓mix_ite, ↓mdiv_ite, ↓mnz_ite, nI_add, nI_mul, nI_nat, nI_ltE, nI_leE, nI_eqE, nI_eqN, nI_Neq, nI_Nlt, nI_Nle, nI_ltN, nI_leN, ↓reduceIte, ↓Nat.reduceEqDiff, and_f, nt_e, nt_t, nl_t, nl_f, ne_t, ne_f, and_self, or_self, or_true, true_or, or_false, false_or, if_true, if_false, and_true, true_and, and_false, false_and, not_true, not_false_iff, e5, e]
    refine ⟨?_, fun _ _ _ _ => rfl⟩
    rw [q, Nat.sub_self]
    rfl
  · simp (disch := omega) only [lit_0, lit_1, lit_2, lit_3, lit_4, lit_5, lit_6, lit_7, lit_8, lit_9, lit_10, lit_11, lit_12, lit_13, lit_14, lit_15, lit_16, lit_20, lit_23, lit_24, lit_31, lit_32, lit_39, lit_43, lit_45, lit_47, lit_48, lit_56, lit_57, lit_59, lit_60, lit_62, lit_63, lit_89, lit_92, lit_96, lit_97, lit_99, lit_100, lit_102, lit_103, lit_104, lit_110, lit_111, lit_115, lit_117, lit_194, lit_200, lit_644, lit_736, lit_999, lit_1000, lit_9999, lit_10000, lit_1000000000, ↓wp_mlet, ↓wp_mbp, ↓wp_ite, ↓wp_mix, ↓wp_mdiv, ↓wp_mnz, ↓wp_some, ↓wp_mbnd, ↓mlet_eq, ↓mbp_eq, ↓mbnd_eq, ↓mix_ite, ↓mdiv_ite, ↓mnz_ite, nI_add, nI_mul, nI_nat, nI_ltE, nI_leE, nI_eqE, nI_eqN, nI_Neq, nI_Nlt, nI_Nle, nI_ltN, nI_leN, ↓reduceIte, ↓Nat.reduceEqDiff, and_f, nt_e, nt_t, nl_t, nl_f, ne_t, ne_f, and_self, or_self, or_true, true_or, or_false, false_or, if_true, if_false, and_true, true_and, and_false, false_and, not_true, not_false_iff, e5]
    obtain ⟨d, hd⟩ : ∃ d, T - 2 = d + 1 := ⟨T - 2 - 1, by omega⟩
    have hd2 : T - 3 = d := by omega
    have lw : ∀ c lo u, wv n (onN T n s ky) d c lo u ≤ n := fun c lo u => wv_le (fun u => onN_le) d c lo u
    obtain ⟨s2, ⟨hv, -, hf⟩, key⟩ := mloopP (F := fun m x (s2 : Int32 × Mem) kk => f_X12_most_1_L20 (nI 2) m s2.1 x s2.2 (fun a b => kk (a, b))) (c := n) (fun x s2 => s2.1 = nI (mx (fun k => if lo ≤ k then wv n (onN T n s ky) d 3 (k + 1) (ut u 2 k) else 0) x) ∧ lo ≤ x ∧ Fr 2 M s2.2) (fun m x s2 kk hx hP => by
      obtain ⟨v, M1⟩ := s2
      obtain ⟨hv, hx1, hf⟩ := hP
      simp only [] at hv hx1 hf
      subst hv
      have f48 : M1 12 48 = M 12 48 := funext fun k => hf 12 48 k (by omega)
      have hK1 : Km M1 T n s ky := h.frame f48
      have e9 := hK1.1.2.2.2.2
      have ek := hK1.2.2.1 x hx
      have hK2 : Km (mup M1 12 56 2 (nI (ky x))) T n s ky := hK1.frame (pm_ne (by decide))
      have hc2 : Cho (mup M1 12 56 2 (nI (ky x))) 3 (x + 1) ky (ut u 2 x) := by
        refine ⟨fun i hi => ?_, fun i j h1 h2 => ?_⟩
        · rw [mup_at, ut_at]
          by_cases r : i = 2
          · rw [if_pos (by omega), if_pos r]
            exact ⟨rfl, by omega⟩
          · rw [if_neg (by omega), if_neg r, hf 12 56 i (by omega)]
            have := hc.1 i (by omega)
            exact ⟨this.1, by omega⟩
        · rw [ut_at, ut_at, if_neg (by omega)]
          by_cases r : j = 2
          · rw [if_pos r]
            have := (hc.1 i (by omega)).2
            omega
          · rw [if_neg r]
            exact hc.2 i j h1 (by omega)
      obtain ⟨r, M3, e, h3, h4⟩ := m_most0 hK2 (by omega) hc2 (by omega)
      subst h3
      rw [hd2] at e
      have l1 := lw 3 (x + 1) (ut u 2 x)
      have l2 : mx (fun k => if lo ≤ k then wv n (onN T n s ky) d 3 (k + 1) (ut u 2 k) else 0) x ≤ n := mx_le x (fun k _ => by
        split
        · exact lw _ _ _
        · exact Nat.zero_le _)
      refine ⟨(nI (mx (fun k => if lo ≤ k then wv n (onN T n s ky) d 3 (k + 1) (ut u 2 k) else 0) (x + 1)), M3), ⟨rfl, by omega, fun a b k hab => ?_⟩, ?_⟩
      · show M3 a b k = M a b k
        rw [h4 a b k (by omega), mup_at, if_neg (by omega), hf a b k hab]
      · show f_X12_most_1_L20 (nI 2) (m + 1) (nI (mx (fun k => if lo ≤ k then wv n (onN T n s ky) d 3 (k + 1) (ut u 2 k) else 0) x)) (nI x) M1 _ = f_X12_most_1_L20 (nI 2) m (nI (mx (fun k => if lo ≤ k then wv n (onN T n s ky) d 3 (k + 1) (ut u 2 k) else 0) (x + 1))) (nI (x + 1)) M3 _
        rw [f_X12_most_1_L20.eq_2, mx_s]
        simp only [if_pos hx1]
        generalize mx (fun k => if lo ≤ k then wv n (onN T n s ky) d 3 (k + 1) (ut u 2 k) else 0) x = y at l2 ⊢
        generalize wv n (onN T n s ky) d 3 (x + 1) (ut u 2 x) = z at l1 e ⊢
        by_cases r : y < z
        · simp (disch := omega) only [lit_0, lit_1, lit_2, lit_3, lit_4, lit_5, lit_6, lit_7, lit_8, lit_9, lit_10, lit_11, lit_12, lit_13, lit_14, lit_15, lit_16, lit_20, lit_23, lit_24, lit_31, lit_32, lit_39, lit_43, lit_45, lit_47, lit_48, lit_56, lit_57, lit_59, lit_60, lit_62, lit_63, lit_89, lit_92, lit_96, lit_97, lit_99, lit_100, lit_102, lit_103, lit_104, lit_110, lit_111, lit_115, lit_117, lit_194, lit_200, lit_644, lit_736, lit_999, lit_1000, lit_9999, lit_10000, lit_1000000000, ↓wp_mlet, ↓wp_mbp, ↓wp_ite, ↓wp_mix, ↓wp_mdiv, ↓wp_mnz, ↓wp_some, ↓wp_mbnd, ↓mlet_eq, ↓mbp_eq, ↓mbnd_eq, ↓mix_ite, ↓mdiv_ite, ↓mnz_ite, nI_add, nI_mul, nI_nat, nI_ltE, nI_leE, nI_eqE, nI_eqN, nI_Neq, nI_Nlt, nI_Nle, nI_ltN, nI_leN, ↓reduceIte, ↓Nat.reduceEqDiff, and_f, nt_e, nt_t, nl_t, nl_f, ne_t, ne_f, and_self, or_self, or_true, true_or, or_false, false_or, if_true, if_false, and_true, true_and, and_false, false_and, not_true, not_false_iff, e9, ek, e]
        · simp (disch := omega) only [lit_0, lit_1, lit_2, lit_3, lit_4, lit_5, lit_6, lit_7, lit_8, lit_9, lit_10, lit_11, lit_12, lit_13, lit_14, lit_15, lit_16, lit_20, lit_23, lit_24, lit_31, lit_32, lit_39, lit_43, lit_45, lit_47, lit_48, lit_56, lit_57, lit_59, lit_60, lit_62, lit_63, lit_89, lit_92, lit_96, lit_97, lit_99, lit_100, lit_102, lit_103, lit_104, lit_110, lit_111, lit_115, lit_117, lit_194, lit_200, lit_644, lit_736, lit_999, lit_1000, lit_9999, lit_10000, lit_1000000000, ↓wp_mlet, ↓wp_mbp, ↓wp_ite, ↓wp_mix, ↓wp_mdiv, ↓wp_mnz, ↓wp_some, ↓wp_mbnd, ↓mlet_eq, ↓mbp_eq, ↓mbnd_eq, ↓mix_ite, ↓mdiv_ite, ↓mnz_ite, nI_add, nI_mul, nI_nat, nI_ltE, nI_leE, nI_eqE, nI_eqN, nI_Neq, nI_Nlt, nI_Nle, nI_ltN, nI_leN, ↓reduceIte, ↓Nat.reduceEqDiff, and_f, nt_e, nt_t, nl_t, nl_f, ne_t, ne_f, and_self, or_self, or_true, true_or, or_false, false_or, if_true, if_false, and_true, true_and, and_false, false_and, not_true, not_false_iff, e9, ek, e]) (fun m s2 kk hP => by
      obtain ⟨v, M1⟩ := s2
      have e9 : M1 12 48 9 = nI n := (hP.2.2 12 48 9 (by omega)).trans h.1.2.2.2.2
      show f_X12_most_1_L20 (nI 2) (m + 1) v (nI n) M1 (fun a b => kk (a, b)) = kk (v, M1)
      rw [f_X12_most_1_L20.eq_2]
      simp (disch := omega) only [lit_0, lit_1, lit_2, lit_3, lit_4, lit_5, lit_6, lit_7, lit_8, lit_9, lit_10, lit_11, lit_12, lit_13, lit_14, lit_15, lit_16, lit_20, lit_23, lit_24, lit_31, lit_32, lit_39, lit_43, lit_45, lit_47, lit_48, lit_56, lit_57, lit_59, lit_60, lit_62, lit_63, lit_89, lit_92, lit_96, lit_97, lit_99, lit_100, lit_102, lit_103, lit_104, lit_110, lit_111, lit_115, lit_117, lit_194, lit_200, lit_644, lit_736, lit_999, lit_1000, lit_9999, lit_10000, lit_1000000000, ↓wp_mlet, ↓wp_mbp, ↓wp_ite, ↓wp_mix, ↓wp_mdiv, ↓wp_mnz, ↓wp_some, ↓wp_mbnd, ↓mlet_eq, ↓mbp_eq, ↓mbnd_eq, ↓mix_ite, ↓mdiv_ite, ↓mnz_ite, nI_add, nI_mul, nI_nat, nI_ltE, nI_leE, nI_eqE, nI_eqN, nI_Neq, nI_Nlt, nI_Nle, nI_ltN, nI_leN, ↓reduceIte, ↓Nat.reduceEqDiff, and_f, nt_e, nt_t, nl_t, nl_f, ne_t, ne_f, and_self, or_self, or_true, true_or, or_false, false_or, if_true, if_false, and_true, true_and, and_false, false_and, not_true, not_false_iff, e9]) (n - lo) N lo (nI 0, M) (fun s2 => some (s2.1, s2.2)) (by omega) (by omega) ⟨by rw [mx_zero (fun k hk => if_neg (by omega))], Nat.le_refl lo, fun _ _ _ _ => rfl⟩
    rw [key, wp_some, hd, wv_s]
    exact ⟨hv, hf⟩
theorem m_most2 {M : Mem} {T n lo : Nat} {s ky u : Nat → Nat} (h : Km M T n s ky) (hT : 1 ≤ T) (hc : Cho M 1 lo ky u) (hlo : lo ≤ n) : wp (f_X12_most_2 (nI 1) (nI lo) M) fun r M1 => r = nI (wv n (onN T n s ky) (T - 1) 1 lo u) ∧ Fr 1 M M1 := by
  have e5 := h.1.1
  have hT3 := h.1.2.1.2
  have hn8 := h.1.2.2.2.1
  unfold f_X12_most_2
  generalize hN : (1000 : Nat) = N
  by_cases q : T = 1
  · have e := m_base (T := T) h (by rw [q]; exact hc) hlo
    simp (disch := omega) only [lit_0, lit_1, lit_2, lit_3, lit_4, lit_5, lit_6, lit_7, lit_8, lit_9, lit_10, lit_11, lit_12, lit_13, lit_14, lit_15, lit_16, lit_20, lit_23, lit_24, lit_31, lit_32, lit_39, lit_43, lit_45, lit_47, lit_48, lit_56, lit_57, lit_59, lit_60, lit_62, lit_63, lit_89, lit_92, lit_96, lit_97, lit_99, lit_100, lit_102, lit_103, lit_104, lit_110, lit_111, lit_115, lit_117, lit_194, lit_200, lit_644, lit_736, lit_999, lit_1000, lit_9999, lit_10000, lit_1000000000, ↓wp_mlet, ↓wp_mbp, ↓wp_ite, ↓wp_mix, ↓wp_mdiv, ↓wp_mnz, ↓wp_some, ↓wp_mbnd, ↓mlet_eq, ↓mbp_eq, ↓mbnd_eq, ↓mix_ite, ↓mdiv_ite, ↓mnz_ite, nI_add, nI_mul, nI_nat, nI_ltE, nI_leE, nI_eqE, nI_eqN, nI_Neq, nI_Nlt, nI_Nle, nI_ltN, nI_leN, ↓reduceIte, ↓Nat.reduceEqDiff, and_f, nt_e, nt_t, nl_t, nl_f, ne_t, ne_f, and_self, or_self, or_true, true_or, or_false, false_or, if_true, if_false, and_true, true_and, and_false, false_and, not_true, not_false_iff, e5, e]
    refine ⟨?_, fun _ _ _ _ => rfl⟩
    rw [q, Nat.sub_self]
    rfl
  · simp (disch := omega) only [lit_0, lit_1, lit_2, lit_3, lit_4, lit_5, lit_6, lit_7, lit_8, lit_9, lit_10, lit_11, lit_12, lit_13, lit_14, lit_15, lit_16, lit_20, lit_23, lit_24, lit_31, lit_32, lit_39, lit_43, lit_45, lit_47, lit_48, lit_56, lit_57, lit_59, lit_60, lit_62, lit_63, lit_89, lit_92, lit_96, lit_97, lit_99, lit_100, lit_102, lit_103, lit_104, lit_110, lit_111, lit_115, lit_117, lit_194, lit_200, lit_644, lit_736, lit_999, lit_1000, lit_9999, lit_10000, lit_1000000000, ↓wp_mlet, ↓wp_mbp, ↓wp_ite, ↓wp_mix, ↓wp_mdiv, ↓wp_mnz, ↓wp_some, ↓wp_mbnd, ↓mlet_eq, ↓mbp_eq, ↓mbnd_eq, ↓mix_ite, ↓mdiv_ite, ↓mnz_ite, nI_add, nI_mul, nI_nat, nI_ltE, nI_leE, nI_eqE, nI_eqN, nI_Neq, nI_Nlt, nI_Nle, nI_ltN, nI_leN, ↓reduceIte, ↓Nat.reduceEqDiff, and_f, nt_e, nt_t, nl_t, nl_f, ne_t, ne_f, and_self, or_self, or_true, true_or, or_false, false_or, if_true, if_false, and_true, true_and, and_false, false_and, not_true, not_false_iff, e5]
    obtain ⟨d, hd⟩ : ∃ d, T - 1 = d + 1 := ⟨T - 1 - 1, by omega⟩
    have hd2 : T - 2 = d := by omega
    have lw : ∀ c lo u, wv n (onN T n s ky) d c lo u ≤ n := fun c lo u => wv_le (fun u => onN_le) d c lo u
    obtain ⟨s2, ⟨hv, -, hf⟩, key⟩ := mloopP (F := fun m x (s2 : Int32 × Mem) kk => f_X12_most_2_L20 (nI 1) m s2.1 x s2.2 (fun a b => kk (a, b))) (c := n) (fun x s2 => s2.1 = nI (mx (fun k => if lo ≤ k then wv n (onN T n s ky) d 2 (k + 1) (ut u 1 k) else 0) x) ∧ lo ≤ x ∧ Fr 1 M s2.2) (fun m x s2 kk hx hP => by
      obtain ⟨v, M1⟩ := s2
      obtain ⟨hv, hx1, hf⟩ := hP
      simp only [] at hv hx1 hf
      subst hv
      have f48 : M1 12 48 = M 12 48 := funext fun k => hf 12 48 k (by omega)
      have hK1 : Km M1 T n s ky := h.frame f48
      have e9 := hK1.1.2.2.2.2
      have ek := hK1.2.2.1 x hx
      have hK2 : Km (mup M1 12 56 1 (nI (ky x))) T n s ky := hK1.frame (pm_ne (by decide))
      have hc2 : Cho (mup M1 12 56 1 (nI (ky x))) 2 (x + 1) ky (ut u 1 x) := by
        refine ⟨fun i hi => ?_, fun i j h1 h2 => ?_⟩
        · rw [mup_at, ut_at]
          by_cases r : i = 1
          · rw [if_pos (by omega), if_pos r]
            exact ⟨rfl, by omega⟩
          · rw [if_neg (by omega), if_neg r, hf 12 56 i (by omega)]
            have := hc.1 i (by omega)
            exact ⟨this.1, by omega⟩
        · rw [ut_at, ut_at, if_neg (by omega)]
          by_cases r : j = 1
          · rw [if_pos r]
            have := (hc.1 i (by omega)).2
            omega
          · rw [if_neg r]
            exact hc.2 i j h1 (by omega)
      obtain ⟨r, M3, e, h3, h4⟩ := m_most1 hK2 (by omega) hc2 (by omega)
      subst h3
      rw [hd2] at e
      have l1 := lw 2 (x + 1) (ut u 1 x)
      have l2 : mx (fun k => if lo ≤ k then wv n (onN T n s ky) d 2 (k + 1) (ut u 1 k) else 0) x ≤ n := mx_le x (fun k _ => by
        split
        · exact lw _ _ _
        · exact Nat.zero_le _)
      refine ⟨(nI (mx (fun k => if lo ≤ k then wv n (onN T n s ky) d 2 (k + 1) (ut u 1 k) else 0) (x + 1)), M3), ⟨rfl, by omega, fun a b k hab => ?_⟩, ?_⟩
      · show M3 a b k = M a b k
        rw [h4 a b k (by omega), mup_at, if_neg (by omega), hf a b k hab]
      · show f_X12_most_2_L20 (nI 1) (m + 1) (nI (mx (fun k => if lo ≤ k then wv n (onN T n s ky) d 2 (k + 1) (ut u 1 k) else 0) x)) (nI x) M1 _ = f_X12_most_2_L20 (nI 1) m (nI (mx (fun k => if lo ≤ k then wv n (onN T n s ky) d 2 (k + 1) (ut u 1 k) else 0) (x + 1))) (nI (x + 1)) M3 _
        rw [f_X12_most_2_L20.eq_2, mx_s]
        simp only [if_pos hx1]
        generalize mx (fun k => if lo ≤ k then wv n (onN T n s ky) d 2 (k + 1) (ut u 1 k) else 0) x = y at l2 ⊢
        generalize wv n (onN T n s ky) d 2 (x + 1) (ut u 1 x) = z at l1 e ⊢
        by_cases r : y < z
        · simp (disch := omega) only [lit_0, lit_1, lit_2, lit_3, lit_4, lit_5, lit_6, lit_7, lit_8, lit_9, lit_10, lit_11, lit_12, lit_13, lit_14, lit_15, lit_16, lit_20, lit_23, lit_24, lit_31, lit_32, lit_39, lit_43, lit_45, lit_47, lit_48, lit_56, lit_57, lit_59, lit_60, lit_62, lit_63, lit_89, lit_92, lit_96, lit_97, lit_99, lit_100, lit_102, lit_103, lit_104, lit_110, lit_111, lit_115, lit_117, lit_194, lit_200, lit_644, lit_736, lit_999, lit_1000, lit_9999, lit_10000, lit_1000000000, ↓wp_mlet, ↓wp_mbp, ↓wp_ite, ↓wp_mix, ↓wp_mdiv, ↓wp_mnz, ↓wp_some, ↓wp_mbnd, ↓mlet_eq, ↓mbp_eq, ↓mbnd_eq, ↓mix_ite, ↓mdiv_ite, ↓mnz_ite, nI_add, nI_mul, nI_nat, nI_ltE, nI_leE, nI_eqE, nI_eqN, nI_Neq, nI_Nlt, nI_Nle, nI_ltN, nI_leN, ↓reduceIte, ↓Nat.reduceEqDiff, and_f, nt_e, nt_t, nl_t, nl_f, ne_t, ne_f, and_self, or_self, or_true, true_or, or_false, false_or, if_true, if_false, and_true, true_and, and_false, false_and, not_true, not_false_iff, e9, ek, e]
        · simp (disch := omega) only [lit_0, lit_1, lit_2, lit_3, lit_4, lit_5, lit_6, lit_7, lit_8, lit_9, lit_10, lit_11, lit_12, lit_13, lit_14, lit_15, lit_16, lit_20, lit_23, lit_24, lit_31, lit_32, lit_39, lit_43, lit_45, lit_47, lit_48, lit_56, lit_57, lit_59, lit_60, lit_62, lit_63, lit_89, lit_92, lit_96, lit_97, lit_99, lit_100, lit_102, lit_103, lit_104, lit_110, lit_111, lit_115, lit_117, lit_194, lit_200, lit_644, lit_736, lit_999, lit_1000, lit_9999, lit_10000, lit_1000000000, ↓wp_mlet, ↓wp_mbp, ↓wp_ite, ↓wp_mix, ↓wp_mdiv, ↓wp_mnz, ↓wp_some, ↓wp_mbnd, ↓mlet_eq, ↓mbp_eq, ↓mbnd_eq, ↓mix_ite, ↓mdiv_ite, ↓mnz_ite, nI_add, nI_mul, nI_nat, nI_ltE, nI_leE, nI_eqE, nI_eqN, nI_Neq, nI_Nlt, nI_Nle, nI_ltN, nI_leN, ↓reduceIte, ↓Nat.reduceEqDiff, and_f, nt_e, nt_t, nl_t, nl_f, ne_t, ne_f, and_self, or_self, or_true, true_or, or_false, false_or, if_true, if_false, and_true, true_and, and_false, false_and, not_true, not_false_iff, e9, ek, e]) (fun m s2 kk hP => by
      obtain ⟨v, M1⟩ := s2
      have e9 : M1 12 48 9 = nI n := (hP.2.2 12 48 9 (by omega)).trans h.1.2.2.2.2
      show f_X12_most_2_L20 (nI 1) (m + 1) v (nI n) M1 (fun a b => kk (a, b)) = kk (v, M1)
      rw [f_X12_most_2_L20.eq_2]
      simp (disch := omega) only [lit_0, lit_1, lit_2, lit_3, lit_4, lit_5, lit_6, lit_7, lit_8, lit_9, lit_10, lit_11, lit_12, lit_13, lit_14, lit_15, lit_16, lit_20, lit_23, lit_24, lit_31, lit_32, lit_39, lit_43, lit_45, lit_47, lit_48, lit_56, lit_57, lit_59, lit_60, lit_62, lit_63, lit_89, lit_92, lit_96, lit_97, lit_99, lit_100, lit_102, lit_103, lit_104, lit_110, lit_111, lit_115, lit_117, lit_194, lit_200, lit_644, lit_736, lit_999, lit_1000, lit_9999, lit_10000, lit_1000000000, ↓wp_mlet, ↓wp_mbp, ↓wp_ite, ↓wp_mix, ↓wp_mdiv, ↓wp_mnz, ↓wp_some, ↓wp_mbnd, ↓mlet_eq, ↓mbp_eq, ↓mbnd_eq, ↓mix_ite, ↓mdiv_ite, ↓mnz_ite, nI_add, nI_mul, nI_nat, nI_ltE, nI_leE, nI_eqE, nI_eqN, nI_Neq, nI_Nlt, nI_Nle, nI_ltN, nI_leN, ↓reduceIte, ↓Nat.reduceEqDiff, and_f, nt_e, nt_t, nl_t, nl_f, ne_t, ne_f, and_self, or_self, or_true, true_or, or_false, false_or, if_true, if_false, and_true, true_and, and_false, false_and, not_true, not_false_iff, e9]) (n - lo) N lo (nI 0, M) (fun s2 => some (s2.1, s2.2)) (by omega) (by omega) ⟨by rw [mx_zero (fun k hk => if_neg (by omega))], Nat.le_refl lo, fun _ _ _ _ => rfl⟩
    rw [key, wp_some, hd, wv_s]
    exact ⟨hv, hf⟩
theorem m_most3 {M : Mem} {T n lo : Nat} {s ky u : Nat → Nat} (h : Km M T n s ky) (hT : 0 ≤ T) (hc : Cho M 0 lo ky u) (hlo : lo ≤ n) : wp (f_X12_most_3 (nI 0) (nI lo) M) fun r M1 => r = nI (wv n (onN T n s ky) (T - 0) 0 lo u) ∧ Fr 0 M M1 := by
  have e5 := h.1.1
  have hT3 := h.1.2.1.2
  have hn8 := h.1.2.2.2.1
  unfold f_X12_most_3
  generalize hN : (1000 : Nat) = N
  by_cases q : T = 0
  · have e := m_base (T := T) h (by rw [q]; exact hc) hlo
    simp (disch := omega) only [lit_0, lit_1, lit_2, lit_3, lit_4, lit_5, lit_6, lit_7, lit_8, lit_9, lit_10, lit_11, lit_12, lit_13, lit_14, lit_15, lit_16, lit_20, lit_23, lit_24, lit_31, lit_32, lit_39, lit_43, lit_45, lit_47, lit_48, lit_56, lit_57, lit_59, lit_60, lit_62, lit_63, lit_89, lit_92, lit_96, lit_97, lit_99, lit_100, lit_102, lit_103, lit_104, lit_110, lit_111, lit_115, lit_117, lit_194, lit_200, lit_644, lit_736, lit_999, lit_1000, lit_9999, lit_10000, lit_1000000000, ↓wp_mlet, ↓wp_mbp, ↓wp_ite, ↓wp_mix, ↓wp_mdiv, ↓wp_mnz, ↓wp_some, ↓wp_mbnd, ↓mlet_eq, ↓mbp_eq, ↓mbnd_eq, ↓mix_ite, ↓mdiv_ite, ↓mnz_ite, nI_add, nI_mul, nI_nat, nI_ltE, nI_leE, nI_eqE, nI_eqN, nI_Neq, nI_Nlt, nI_Nle, nI_ltN, nI_leN, ↓reduceIte, ↓Nat.reduceEqDiff, and_f, nt_e, nt_t, nl_t, nl_f, ne_t, ne_f, and_self, or_self, or_true, true_or, or_false, false_or, if_true, if_false, and_true, true_and, and_false, false_and, not_true, not_false_iff, e5, e]
    refine ⟨?_, fun _ _ _ _ => rfl⟩
    rw [q, Nat.sub_self]
    rfl
  · simp (disch := omega) only [lit_0, lit_1, lit_2, lit_3, lit_4, lit_5, lit_6, lit_7, lit_8, lit_9, lit_10, lit_11, lit_12, lit_13, lit_14, lit_15, lit_16, lit_20, lit_23, lit_24, lit_31, lit_32, lit_39, lit_43, lit_45, lit_47, lit_48, lit_56, lit_57, lit_59, lit_60, lit_62, lit_63, lit_89, lit_92, lit_96, lit_97, lit_99, lit_100, lit_102, lit_103, lit_104, lit_110, lit_111, lit_115, lit_117, lit_194, lit_200, lit_644, lit_736, lit_999, lit_1000, lit_9999, lit_10000, lit_1000000000, ↓wp_mlet, ↓wp_mbp, ↓wp_ite, ↓wp_mix, ↓wp_mdiv, ↓wp_mnz, ↓wp_some, ↓wp_mbnd, ↓mlet_eq, ↓mbp_eq, ↓mbnd_eq, ↓mix_ite, ↓mdiv_ite, ↓mnz_ite, nI_add, nI_mul, nI_nat, nI_ltE, nI_leE, nI_eqE, nI_eqN, nI_Neq, nI_Nlt, nI_Nle, nI_ltN, nI_leN, ↓reduceIte, ↓Nat.reduceEqDiff, and_f, nt_e, nt_t, nl_t, nl_f, ne_t, ne_f, and_self, or_self, or_true, true_or, or_false, false_or, if_true, if_false, and_true, true_and, and_false, false_and, not_true, not_false_iff, e5]
    obtain ⟨d, hd⟩ : ∃ d, T - 0 = d + 1 := ⟨T - 0 - 1, by omega⟩
    have hd2 : T - 1 = d := by omega
    have lw : ∀ c lo u, wv n (onN T n s ky) d c lo u ≤ n := fun c lo u => wv_le (fun u => onN_le) d c lo u
    obtain ⟨s2, ⟨hv, -, hf⟩, key⟩ := mloopP (F := fun m x (s2 : Int32 × Mem) kk => f_X12_most_3_L20 (nI 0) m s2.1 x s2.2 (fun a b => kk (a, b))) (c := n) (fun x s2 => s2.1 = nI (mx (fun k => if lo ≤ k then wv n (onN T n s ky) d 1 (k + 1) (ut u 0 k) else 0) x) ∧ lo ≤ x ∧ Fr 0 M s2.2) (fun m x s2 kk hx hP => by
      obtain ⟨v, M1⟩ := s2
      obtain ⟨hv, hx1, hf⟩ := hP
      simp only [] at hv hx1 hf
      subst hv
      have f48 : M1 12 48 = M 12 48 := funext fun k => hf 12 48 k (by omega)
      have hK1 : Km M1 T n s ky := h.frame f48
      have e9 := hK1.1.2.2.2.2
      have ek := hK1.2.2.1 x hx
      have hK2 : Km (mup M1 12 56 0 (nI (ky x))) T n s ky := hK1.frame (pm_ne (by decide))
      have hc2 : Cho (mup M1 12 56 0 (nI (ky x))) 1 (x + 1) ky (ut u 0 x) := by
        refine ⟨fun i hi => ?_, fun i j h1 h2 => ?_⟩
        · rw [mup_at, ut_at]
          by_cases r : i = 0
          · rw [if_pos (by omega), if_pos r]
            exact ⟨rfl, by omega⟩
          · rw [if_neg (by omega), if_neg r, hf 12 56 i (by omega)]
            have := hc.1 i (by omega)
            exact ⟨this.1, by omega⟩
        · rw [ut_at, ut_at, if_neg (by omega)]
          by_cases r : j = 0
          · rw [if_pos r]
            have := (hc.1 i (by omega)).2
            omega
          · rw [if_neg r]
            exact hc.2 i j h1 (by omega)
      obtain ⟨r, M3, e, h3, h4⟩ := m_most2 hK2 (by omega) hc2 (by omega)
      subst h3
      rw [hd2] at e
      have l1 := lw 1 (x + 1) (ut u 0 x)
      have l2 : mx (fun k => if lo ≤ k then wv n (onN T n s ky) d 1 (k + 1) (ut u 0 k) else 0) x ≤ n := mx_le x (fun k _ => by
        split
        · exact lw _ _ _
        · exact Nat.zero_le _)
      refine ⟨(nI (mx (fun k => if lo ≤ k then wv n (onN T n s ky) d 1 (k + 1) (ut u 0 k) else 0) (x + 1)), M3), ⟨rfl, by omega, fun a b k hab => ?_⟩, ?_⟩
      · show M3 a b k = M a b k
        rw [h4 a b k (by omega), mup_at, if_neg (by omega), hf a b k hab]
      · show f_X12_most_3_L20 (nI 0) (m + 1) (nI (mx (fun k => if lo ≤ k then wv n (onN T n s ky) d 1 (k + 1) (ut u 0 k) else 0) x)) (nI x) M1 _ = f_X12_most_3_L20 (nI 0) m (nI (mx (fun k => if lo ≤ k then wv n (onN T n s ky) d 1 (k + 1) (ut u 0 k) else 0) (x + 1))) (nI (x + 1)) M3 _
        rw [f_X12_most_3_L20.eq_2, mx_s]
        simp only [if_pos hx1]
        generalize mx (fun k => if lo ≤ k then wv n (onN T n s ky) d 1 (k + 1) (ut u 0 k) else 0) x = y at l2 ⊢
        generalize wv n (onN T n s ky) d 1 (x + 1) (ut u 0 x) = z at l1 e ⊢
        by_cases r : y < z
        · simp (disch := omega) only [lit_0, lit_1, lit_2, lit_3, lit_4, lit_5, lit_6, lit_7, lit_8, lit_9, lit_10, lit_11, lit_12, lit_13, lit_14, lit_15, lit_16, lit_20, lit_23, lit_24, lit_31, lit_32, lit_39, lit_43, lit_45, lit_47, lit_48, lit_56, lit_57, lit_59, lit_60, lit_62, lit_63, lit_89, lit_92, lit_96, lit_97, lit_99, lit_100, lit_102, lit_103, lit_104, lit_110, lit_111, lit_115, lit_117, lit_194, lit_200, lit_644, lit_736, lit_999, lit_1000, lit_9999, lit_10000, lit_1000000000, ↓wp_mlet, ↓wp_mbp, ↓wp_ite, ↓wp_mix, ↓wp_mdiv, ↓wp_mnz, ↓wp_some, ↓wp_mbnd, ↓mlet_eq, ↓mbp_eq, ↓mbnd_eq, ↓mix_ite, ↓mdiv_ite, ↓mnz_ite, nI_add, nI_mul, nI_nat, nI_ltE, nI_leE, nI_eqE, nI_eqN, nI_Neq, nI_Nlt, nI_Nle, nI_ltN, nI_leN, ↓reduceIte, ↓Nat.reduceEqDiff, and_f, nt_e, nt_t, nl_t, nl_f, ne_t, ne_f, and_self, or_self, or_true, true_or, or_false, false_or, if_true, if_false, and_true, true_and, and_false, false_and, not_true, not_false_iff, e9, ek, e]
        · simp (disch := omega) only [lit_0, lit_1, lit_2, lit_3, lit_4, lit_5, lit_6, lit_7, lit_8, lit_9, lit_10, lit_11, lit_12, lit_13, lit_14, lit_15, lit_16, lit_20, lit_23, lit_24, lit_31, lit_32, lit_39, lit_43, lit_45, lit_47, lit_48, lit_56, lit_57, lit_59, lit_60, lit_62, lit_63, lit_89, lit_92, lit_96, lit_97, lit_99, lit_100, lit_102, lit_103, lit_104, lit_110, lit_111, lit_115, lit_117, lit_194, lit_200, lit_644, lit_736, lit_999, lit_1000, lit_9999, lit_10000, lit_1000000000, ↓wp_mlet, ↓wp_mbp, ↓wp_ite, ↓wp_mix, ↓wp_mdiv, ↓wp_mnz, ↓wp_some, ↓wp_mbnd, ↓mlet_eq, ↓mbp_eq, ↓mbnd_eq, ↓mix_ite, ↓mdiv_ite, ↓mnz_ite, nI_add, nI_mul, nI_nat, nI_ltE, nI_leE, nI_eqE, nI_eqN, nI_Neq, nI_Nlt, nI_Nle, nI_ltN, nI_leN, ↓reduceIte, ↓Nat.reduceEqDiff, and_f, nt_e, nt_t, nl_t, nl_f, ne_t, ne_f, and_self, or_self, or_true, true_or, or_false, false_or, if_true, if_false, and_true, true_and, and_false, false_and, not_true, not_false_iff, e9, ek, e]) (fun m s2 kk hP => by
      obtain ⟨v, M1⟩ := s2
      have e9 : M1 12 48 9 = nI n := (hP.2.2 12 48 9 (by omega)).trans h.1.2.2.2.2
      show f_X12_most_3_L20 (nI 0) (m + 1) v (nI n) M1 (fun a b => kk (a, b)) = kk (v, M1)
      rw [f_X12_most_3_L20.eq_2]
      simp (disch := omega) only [lit_0, lit_1, lit_2, lit_3, lit_4, lit_5, lit_6, lit_7, lit_8, lit_9, lit_10, lit_11, lit_12, lit_13, lit_14, lit_15, lit_16, lit_20, lit_23, lit_24, lit_31, lit_32, lit_39, lit_43, lit_45, lit_47, lit_48, lit_56, lit_57, lit_59, lit_60, lit_62, lit_63, lit_89, lit_92, lit_96, lit_97, lit_99, lit_100, lit_102, lit_103, lit_104, lit_110, lit_111, lit_115, lit_117, lit_194, lit_200, lit_644, lit_736, lit_999, lit_1000, lit_9999, lit_10000, lit_1000000000, ↓wp_mlet, ↓wp_mbp, ↓wp_ite, ↓wp_mix, ↓wp_mdiv, ↓wp_mnz, ↓wp_some, ↓wp_mbnd, ↓mlet_eq, ↓mbp_eq, ↓mbnd_eq, ↓mix_ite, ↓mdiv_ite, ↓mnz_ite, nI_add, nI_mul, nI_nat, nI_ltE, nI_leE, nI_eqE, nI_eqN, nI_Neq, nI_Nlt, nI_Nle, nI_ltN, nI_leN, ↓reduceIte, ↓Nat.reduceEqDiff, and_f, nt_e, nt_t, nl_t, nl_f, ne_t, ne_f, and_self, or_self, or_true, true_or, or_false, false_or, if_true, if_false, and_true, true_and, and_false, false_and, not_true, not_false_iff, e9]) (n - lo) N lo (nI 0, M) (fun s2 => some (s2.1, s2.2)) (by omega) (by omega) ⟨by rw [mx_zero (fun k hk => if_neg (by omega))], Nat.le_refl lo, fun _ _ _ _ => rfl⟩
    rw [key, wp_some, hd, wv_s]
    exact ⟨hv, hf⟩
/-! THE THREE ANSWERS ARE ONE -/
theorem cf_cg {T : Nat} {s t t' : Nat → Nat} (hT : 1 ≤ T ∧ T ≤ 3) (h : ∀ i, i < T → t i = t' i) (k : Nat) : cf T s t k = cf T s t' k := by
  by_cases q : T ≤ k
  · rw [cf_deg q, cf_deg q]
  rcases (show T = 1 ∨ T = 2 ∨ T = 3 by omega) with rfl | rfl | rfl
  · obtain rfl : k = 0 := by omega
    have e0 : ∀ t, cf 1 s t 0 = zz (s (t 0)) := fun t => by simp [cf, cf0]
    rw [e0, e0, h 0 (by decide)]
  · have e1 : ∀ t, cf 2 s t 1 = (zz (s (t 1)) - zz (s (t 0))) * iz (ps t 1 - ps t 0) := fun t => by simp [cf, cf1]
    have e0 : ∀ t, cf 2 s t 0 = zz (s (t 0)) - cf 2 s t 1 * ps t 0 := fun t => by simp [cf, cf0]
    have p : ∀ i, i < 2 → ps t i = ps t' i := fun i hi => by unfold ps; rw [h i hi]
    have q1 : cf 2 s t 1 = cf 2 s t' 1 := by rw [e1, e1, h 0 (by decide), h 1 (by decide), p 0 (by decide), p 1 (by decide)]
    rcases (show k = 0 ∨ k = 1 by omega) with rfl | rfl
    · rw [e0, e0, q1, h 0 (by decide), p 0 (by decide)]
    · exact q1
  · have e2 : ∀ t, cf 3 s t 2 = ((zz (s (t 2)) - zz (s (t 0))) * iz (ps t 2 - ps t 0) - (zz (s (t 1)) - zz (s (t 0))) * iz (ps t 1 - ps t 0)) * iz (ps t 2 - ps t 1) := fun t => by simp [cf, cf2]
    have e1 : ∀ t, cf 3 s t 1 = (zz (s (t 1)) - zz (s (t 0))) * iz (ps t 1 - ps t 0) - cf 3 s t 2 * (ps t 0 + ps t 1) := fun t => by simp [cf, cf1]
    have e0 : ∀ t, cf 3 s t 0 = zz (s (t 0)) - cf 3 s t 1 * ps t 0 - cf 3 s t 2 * ps t 0 * ps t 0 := fun t => by simp [cf, cf0]
    have p : ∀ i, i < 3 → ps t i = ps t' i := fun i hi => by unfold ps; rw [h i hi]
    have q2 : cf 3 s t 2 = cf 3 s t' 2 := by rw [e2, e2, h 0 (by decide), h 1 (by decide), h 2 (by decide), p 0 (by decide), p 1 (by decide), p 2 (by decide)]
    have q1 : cf 3 s t 1 = cf 3 s t' 1 := by rw [e1, e1, q2, h 0 (by decide), h 1 (by decide), p 0 (by decide), p 1 (by decide)]
    rcases (show k = 0 ∨ k = 1 ∨ k = 2 by omega) with rfl | rfl | rfl
    · rw [e0, e0, q1, q2, h 0 (by decide), p 0 (by decide)]
    · exact q1
    · exact q2
theorem onC_cg {T : Nat} {s t t' : Nat → Nat} (h : ∀ k, k < 3 → cf T s t k = cf T s t' k) (y : Nat) : onC T s t y = onC T s t' y := by
  unfold onC thr ev
  rw [h 0 (by decide), h 1 (by decide), h 2 (by decide)]
theorem onN_cg {T n : Nat} {s ky u u' : Nat → Nat} (hT : 1 ≤ T ∧ T ≤ 3) (h : ∀ i, i < T → u i = u' i) : onN T n s ky u = onN T n s ky u' :=
  cnt_cg n (fun k _ => onC_cg (fun k _ => cf_cg hT (fun i hi => by show ky (u i) = ky (u' i); rw [h i hi]) k) (ky k))
/-- other points of the same curve -/
theorem cf_on' {T : Nat} {s t t' : Nat → Nat} (hT : 1 ≤ T ∧ T ≤ 3) (hu' : Tu T t') (hon : ∀ i, i < T → onC T s t (t' i) = true) : ∀ k, k < 3 → cf T s t k = cf T s t' k := by
  have h := cf_uniq (s := s) (δ := cf T s t) hT hu' (fun k h1 _ => cf_deg h1) (fun i hi => by
    have h1 := hon i hi
    rw [onC_t] at h1
    rw [← h1, zz_thr]
    rfl)
  intro k hk
  rcases (show k = 0 ∨ k = 1 ∨ k = 2 by omega) with rfl | rfl | rfl
  · exact h.1
  · exact h.2.1
  · exact h.2.2
/-- the set of the places where P holds -/
def mk (P : Nat → Bool) : Nat → Nat
  | 0 => 0
  | k + 1 => mk P k + (P k).toNat * 2 ^ k
theorem mk_s {P : Nat → Bool} {k : Nat} : mk P (k + 1) = mk P k + (P k).toNat * 2 ^ k := Eq.trans rfl rfl
theorem mk_lt {P : Nat → Bool} : ∀ n, mk P n < 2 ^ n
  | 0 => by show 0 < 1; decide
  | n + 1 => by
    have ih := mk_lt (P := P) n
    have h2 : (P n).toNat ≤ 1 := by cases P n <;> decide
    have h3 : (P n).toNat * 2 ^ n ≤ 1 * 2 ^ n := Nat.mul_le_mul_right _ h2
    rw [mk_s, Nat.pow_succ]
    omega
theorem mk_tb {P : Nat → Bool} : ∀ n k, k < n → (mk P n).testBit k = P k
  | 0, _, h => by omega
  | n + 1, k, h => by
    have l := mk_lt (P := P) n
    rw [mk_s]
    by_cases q : k = n
    · subst q
      cases e : P k with
      | true =>
        rw [Bool.toNat_true, Nat.one_mul, Nat.add_comm, Nat.testBit_two_pow_add_eq, Nat.testBit_lt_two_pow l]
        rfl
      | false => rw [Bool.toNat_false, Nat.zero_mul, Nat.add_zero, Nat.testBit_lt_two_pow l]
    · have ih := mk_tb (P := P) n k (by omega)
      cases e : P n with
      | true =>
        rw [Bool.toNat_true, Nat.one_mul, Nat.add_comm, Nat.testBit_two_pow_add_gt (by omega)]
        exact ih
      | false => rw [Bool.toNat_false, Nat.zero_mul, Nat.add_zero]; exact ih
theorem pop_n {x n : Nat} (hn : n ≤ 8) (hx : x < 2 ^ n) : pop x = cnt (fun k => x.testBit k) n := cnt_tail hn (fun k h1 _ => tb_hi hx h1)
theorem mk_pop {P : Nat → Bool} {n : Nat} (hn : n ≤ 8) : pop (mk P n) = cnt P n := by
  rw [pop_n hn (mk_lt n)]
  exact cnt_cg n (fun k hk => mk_tb n k hk)
/-- T members at least, if T of them hold P -/
theorem cnt_ge {P : Nat → Bool} {T n : Nat} {u : Nat → Nat} (h1 : ∀ i j, i < j → j < T → u i < u j) (h2 : ∀ i, i < T → u i < n ∧ P (u i) = true) : T ≤ cnt P n := by
  have h : ∀ k, k ≤ T → ∀ m, (∀ i, i < k → u i < m) → k ≤ cnt P m := by
    intro k
    induction k with
    | zero => intro _ m _; exact Nat.zero_le _
    | succ k ih =>
      intro hk m hm
      have a := ih (by omega) (u k) (fun i hi => h1 i k hi (by omega))
      have b := cnt_lt_of (P := P) (hm k (by omega)) (h2 k (by omega)).2
      omega
  exact h T (Nat.le_refl T) n (fun i hi => (h2 i hi).1)
theorem most_CS {T n : Nat} {s ky : Nat → Nat} (hT : 1 ≤ T ∧ T ≤ 3) (hTn : T ≤ n) (hn : n ≤ 8) (hs : ∀ k, k < 8 → s k ≤ 96) (hu : Tu n ky) : mx (fC T n s ky) (2 ^ n) = mx (fS T s ky) (2 ^ n) := by
  have self : ∀ x, x < 2 ^ n → T ≤ pop x → ∀ i, i < T → onC T s (fun i => ky (sel x i)) (ky (sel x i)) = true := fun x hx hp i hi => onC_self (t := fun i => ky (sel x i)) hT (tu_sel hu hn hx hp) hs hi
  refine Nat.le_antisymm (mx_le _ fun x hx => ?_) (mx_le _ fun y hy => ?_)
  · rw [fC_at]
    by_cases q : pop x = T
    · rw [if_pos q]
      have hz := mk_lt (P := fun k => onC T s (fun i => ky (sel x i)) (ky k)) n
      have hzp := mk_pop (P := fun k => onC T s (fun i => ky (sel x i)) (ky k)) hn
      have hzt := fun k hk => mk_tb (P := fun k => onC T s (fun i => ky (sel x i)) (ky k)) n k hk
      generalize mk (fun k => onC T s (fun i => ky (sel x i)) (ky k)) n = z at hz hzp hzt
      have hge : T ≤ pop z := by
        rw [hzp]
        exact cnt_ge (u := sel x) (fun i j h1 h2 => sel_lt hn hx (by omega) h1) (fun i hi => ⟨(sel_p hn hx (by omega)).1, self x hx (by omega) i hi⟩)
      have hof : ∀ k, k < pop z → onC T s (fun i => ky (sel x i)) (ky (sel z k)) = true := fun k hk => by
        obtain ⟨a1, a2, -⟩ := sel_p hn hz hk
        rw [hzt _ a1] at a2
        exact a2
      have hcf := cf_on' (t := fun i => ky (sel x i)) hT (tu_sel hu hn hz hge) (fun i hi => hof i (by omega))
      have hag : one T s (fun i => ky (sel z i)) (pop z) = true := by
        rw [one_t]
        intro k hk
        rw [← onC_cg hcf]
        exact hof k hk
      have e : fS T s ky z = pop z := by rw [fS_at, if_pos (Or.inr hag)]
      have := mx_ge (f := fS T s ky) (2 ^ n) z hz
      rw [e, hzp] at this
      exact this
    · rw [if_neg q]
      exact Nat.zero_le _
  · have hTT : ∀ y', y' < 2 ^ n → pop y' = T → onN T n s ky (sel y') ≤ mx (fC T n s ky) (2 ^ n) := fun y' h1 h2 => by
      have := mx_ge (f := fC T n s ky) (2 ^ n) y' h1
      rw [fC_at, if_pos h2] at this
      exact this
    have l := pow_le hn
    rw [fS_at]
    by_cases q : pop y ≤ T
    · rw [if_pos (Or.inl q)]
      have h0 : 2 ^ T - 1 < 2 ^ n := by
        have := Nat.pow_le_pow_right (show 0 < 2 by decide) hTn
        have := Nat.pow_pos (n := T) (show 0 < 2 by decide)
        omega
      have hp : pop (2 ^ T - 1) = T := by
        rcases (show T = 1 ∨ T = 2 ∨ T = 3 by omega) with rfl | rfl | rfl <;> decide
      have a := hTT _ h0 hp
      have b : T ≤ onN T n s ky (sel (2 ^ T - 1)) := cnt_ge (u := sel (2 ^ T - 1)) (fun i j h1 h2 => sel_lt hn h0 (by omega) h1) (fun i hi => ⟨(sel_p hn h0 (by omega)).1, self _ h0 (by omega) i hi⟩)
      omega
    · by_cases q2 : one T s (fun i => ky (sel y i)) (pop y) = true
      · rw [if_pos (Or.inr q2)]
        obtain ⟨a1, a2, a3⟩ := fst_all ⟨y, by omega⟩ ⟨T, by omega⟩ (by show T ≤ pop y; omega)
        simp only [] at a1 a2 a3
        have hz : fst3 T y < 2 ^ n := by omega
        have a4 : ∀ i, i < T → sel (fst3 T y) i = sel y i := fun i hi => a3 ⟨i, by omega⟩ hi
        generalize fst3 T y = z at hz a2 a4
        have a := hTT z hz a2
        rw [onN_cg hT a4] at a
        refine Nat.le_trans ?_ a
        rw [pop_n hn hy]
        refine cnt_mono n (fun k hk hb => ?_)
        rw [one_t] at q2
        have hk2 : cnt (fun k => y.testBit k) k < pop y := by
          rw [pop_n hn hy]
          exact cnt_lt_of (P := fun k => y.testBit k) hk hb
        have e := q2 _ hk2
        obtain ⟨b1, b2, b3⟩ := sel_p hn hy hk2
        have e2 : sel y (cnt (fun k => y.testBit k) k) = k := by
          rcases Nat.lt_trichotomy (sel y (cnt (fun k => y.testBit k) k)) k with r | r | r
          · have := cnt_lt_of (P := fun k => y.testBit k) r b2
            omega
          · exact r
          · have := cnt_lt_of (P := fun k => y.testBit k) r hb
            omega
        rw [e2] at e
        exact e
      · rw [if_neg (by simp only [not_or]; exact ⟨q, q2⟩)]
        exact Nat.zero_le _
def Inc (T n : Nat) (u : Nat → Nat) : Prop := (∀ i, i < T → u i < n) ∧ ∀ i j, i < j → j < T → u i < u j
theorem wv_ub {n T B : Nat} {F : (Nat → Nat) → Nat} (hF : ∀ u, Inc T n u → F u ≤ B) : ∀ d c lo u, c + d = T → lo ≤ n → (∀ i, i < c → u i < lo) → (∀ i j, i < j → j < c → u i < u j) → wv n F d c lo u ≤ B
  | 0, c, lo, u, h1, h2, h3, h4 => hF u ⟨fun i hi => by have := h3 i (by omega); omega, fun i j hij hj => h4 i j hij (by omega)⟩
  | d + 1, c, lo, u, h1, h2, h3, h4 => by
    rw [wv_s]
    refine mx_le n (fun k hk => ?_)
    split
    · rename_i hlk
      refine wv_ub hF d (c + 1) (k + 1) (ut u c k) (by omega) (by omega) (fun i hi => ?_) (fun i j hij hj => ?_)
      · rw [ut_at]
        split
        · omega
        · have := h3 i (by omega)
          omega
      · rw [ut_at, ut_at, if_neg (by omega)]
        split
        · have := h3 i (by omega)
          omega
        · exact h4 i j hij (by omega)
    · exact Nat.zero_le _
theorem wv_lb {n T : Nat} {F : (Nat → Nat) → Nat} (hcg : ∀ u u', (∀ i, i < T → u i = u' i) → F u = F u') {v : Nat → Nat} (hv : Inc T n v) : ∀ d c lo u, c + d = T → (∀ i, i < c → u i = v i) → (c < T → lo ≤ v c) → F v ≤ wv n F d c lo u
  | 0, c, lo, u, h1, h2, h3 => Nat.le_of_eq (hcg v u (fun i hi => (h2 i (by omega)).symm))
  | d + 1, c, lo, u, h1, h2, h3 => by
    rw [wv_s]
    have ih := wv_lb hcg hv d (c + 1) (v c + 1) (ut u c (v c)) (by omega) (fun i hi => by
      rw [ut_at]
      split
      · rename_i q; rw [q]
      · exact h2 i (by omega)) (fun q => hv.2 c (c + 1) (by omega) q)
    have := mx_ge (f := fun k => if lo ≤ k then wv n F d (c + 1) (k + 1) (ut u c k) else 0) n (v c) (hv.1 c (by omega))
    simp only [if_pos (h3 (by omega))] at this
    omega
theorem most_MC {T n : Nat} {s ky u : Nat → Nat} (hT : 1 ≤ T ∧ T ≤ 3) (hTn : T ≤ n) (hn : n ≤ 8) : wv n (onN T n s ky) T 0 0 u = mx (fC T n s ky) (2 ^ n) := by
  refine Nat.le_antisymm (wv_ub (T := T) (fun v hv => ?_) T 0 0 u (by omega) (Nat.zero_le _) (fun i hi => by omega) (fun i j _ hj => by omega)) (mx_le _ fun x hx => ?_)
  · have key : ∃ x, x < 2 ^ n ∧ pop x = T ∧ ∀ i, i < T → sel x i = v i := by
      rcases (show T = 1 ∨ T = 2 ∨ T = 3 by omega) with rfl | rfl | rfl
      · have v0 := hv.1 0 (by decide)
        obtain ⟨a1, a2, a3⟩ := tup_1 ⟨v 0, by omega⟩ ⟨n, by omega⟩ v0
        refine ⟨_, a1, a2, fun i hi => ?_⟩
        obtain rfl : i = 0 := by omega
        exact a3
      · have v0 := hv.1 0 (by decide)
        have v1 := hv.1 1 (by decide)
        obtain ⟨a1, a2, a3, a4⟩ := tup_2 ⟨v 0, by omega⟩ ⟨v 1, by omega⟩ ⟨n, by omega⟩ (hv.2 0 1 (by decide) (by decide)) v1
        refine ⟨_, a1, a2, fun i hi => ?_⟩
        rcases (show i = 0 ∨ i = 1 by omega) with rfl | rfl
        · exact a3
        · exact a4
      · have v0 := hv.1 0 (by decide)
        have v1 := hv.1 1 (by decide)
        have v2 := hv.1 2 (by decide)
        obtain ⟨a1, a2, a3, a4, a5⟩ := tup_3 ⟨v 0, by omega⟩ ⟨v 1, by omega⟩ ⟨v 2, by omega⟩ ⟨n, by omega⟩ (hv.2 0 1 (by decide) (by decide)) (hv.2 1 2 (by decide) (by decide)) v2
        refine ⟨_, a1, a2, fun i hi => ?_⟩
        rcases (show i = 0 ∨ i = 1 ∨ i = 2 by omega) with rfl | rfl | rfl
        · exact a3
        · exact a4
        · exact a5
    obtain ⟨x, h1, h2, h3⟩ := key
    have := mx_ge (f := fC T n s ky) (2 ^ n) x h1
    rw [fC_at, if_pos h2, onN_cg hT h3] at this
    exact this
  · rw [fC_at]
    by_cases q : pop x = T
    · rw [if_pos q]
      exact wv_lb (fun u u' h => onN_cg hT h) (v := sel x) ⟨fun i hi => (sel_p hn hx (by omega)).1, fun i j h1 h2 => sel_lt hn hx (by omega) h1⟩ T 0 0 u (by omega) (fun i hi => by omega) (fun _ => Nat.zero_le _)
    · rw [if_neg q]
      exact Nat.zero_le _
theorem Kc0 {M : Mem} {H : Nat} {α : Sp} (hk : Rk (M 0) α) (hi : Inv H α) (he : en α) : Kc M 0 (α 5) (α 9) (sh α) (ky α) := by
  have hu := ky_tu hi (Nat.le_refl (α 9))
  obtain ⟨h1, h2, h3, h4, h5, h6, h7⟩ := hk
  obtain ⟨⟨b0, b1, b2, b3, b4, b5, b6, b7, b8, b9, b10, b11, b14⟩, i1, i2, bs, bk, bn, bz, bt, bg, bl⟩ := hi
  exact ⟨⟨h3, ⟨i2 he.1, b5⟩, he.2, by omega, h4⟩, fun k hk => ⟨h5 k hk, bs k hk⟩, fun k hk => h7 k (by omega) hk, hu⟩
theorem Km0 {M : Mem} {H : Nat} {α : Sp} (hS : M 12 48 = enc α) (hi : Inv H α) (he : en α) : Km M (α 5) (α 9) (sh α) (ky α) := by
  have hu := ky_tu hi (Nat.le_refl (α 9))
  obtain ⟨⟨b0, b1, b2, b3, b4, b5, b6, b7, b8, b9, b10, b11, b14⟩, i1, i2, bs, bk, bn, bz, bt, bg, bl⟩ := hi
  exact ⟨⟨ms_n hS (by decide), ⟨i2 he.1, b5⟩, he.2, by omega, ms_n hS (by decide)⟩, fun k hk => ⟨ms_n hS (by omega), bs k hk⟩, fun k hk => ms_n hS (by omega), hu⟩
/-- the greatest number of keys that agree -/
def mostA (α : Sp) : Nat := mx (fC (α 5) (α 9) (sh α) (ky α)) (2 ^ (α 9))
theorem m_most {M : Mem} {H : Nat} {α : Sp} (hS : M 12 48 = enc α) (hi : Inv H α) (he : en α) : wp (f_X12_most_3 (nI 0) (nI 0) M) fun r M1 => r = nI (mostA α) ∧ ∀ a b, ¬ (a = 12 ∧ b = 56) → M1 a b = M a b := by
  have hK := Km0 hS hi he
  refine wp_mono (m_most3 (lo := 0) (u := id) hK (Nat.zero_le _) ⟨fun i hi => by omega, fun i j _ hj => by omega⟩ (Nat.zero_le _)) ?_
  rintro r M1 ⟨rfl, h2⟩
  refine ⟨?_, fun a b hab => funext fun k => h2 a b k (by omega)⟩
  rw [Nat.sub_zero, most_MC hK.1.2.1 hK.1.2.2.1 hK.1.2.2.2.1]
  rfl
theorem m_mostAgree {M : Mem} {H n : Nat} {α : Sp} (hr : Rel n M) (hS : M 12 48 = enc α) (hi : Inv H α) : (en α → wp (f_X12_mostAgreeing M) fun r M2 => r = nI (mostA α) ∧ Rel (n + 1) M2 ∧ M2 12 47 0 = nI 0) ∧ (¬ en α → wp (f_X12_mostAgreeing M) fun r M2 => Rel (n + 1) M2 ∧ M2 12 47 0 = nI 1) := by
  obtain ⟨m1, m2⟩ := m_enough hS hi
  unfold f_X12_mostAgreeing
  refine ⟨fun he => ?_, fun he => ?_⟩
  · have hS' := ms_t (x := nI 0) hS
    obtain ⟨r, M3, e, rfl, h3⟩ := m_most hS' hi he
    rw [m1 he]
    simp (disch := omega) only [lit_0, lit_1, lit_2, lit_3, lit_4, lit_5, lit_6, lit_7, lit_8, lit_9, lit_10, lit_11, lit_12, lit_13, lit_14, lit_15, lit_16, lit_20, lit_23, lit_24, lit_31, lit_32, lit_39, lit_43, lit_45, lit_47, lit_48, lit_56, lit_57, lit_59, lit_60, lit_62, lit_63, lit_89, lit_92, lit_96, lit_97, lit_99, lit_100, lit_102, lit_103, lit_104, lit_110, lit_111, lit_115, lit_117, lit_194, lit_200, lit_644, lit_736, lit_999, lit_1000, lit_9999, lit_10000, lit_1000000000, ↓wp_mlet, ↓wp_mbp, ↓wp_ite, ↓wp_mix, ↓wp_mdiv, ↓wp_mnz, ↓wp_some, ↓wp_mbnd, ↓mlet_eq, ↓mbp_eq, ↓mbnd_eq, ↓mix_ite, ↓mdiv_ite, ↓mnz_ite, nI_add, nI_mul, nI_nat, nI_ltE, nI_leE, nI_eqE, nI_eqN, nI_Neq, nI_Nlt, nI_Nle, nI_ltN, nI_leN, ↓reduceIte, ↓Nat.reduceEqDiff, and_f, nt_e, nt_t, nl_t, nl_f, ne_t, ne_f, and_self, or_self, or_true, true_or, or_false, false_or, if_true, if_false, and_true, true_and, and_false, false_and, not_true, not_false_iff, e]
    refine ⟨Rel_w hr (fun i hi => ?_) (fun a b hab => ?_), ?_⟩
    · rw [h3 12 47 (by decide), mup_at, if_neg (by omega)]
    · rw [h3 a b (by omega), pm_ne (by omega)]
    · rw [h3 12 47 (by decide)]; exact thr0
  · rw [m2 he]
    simp (disch := omega) only [lit_0, lit_1, lit_2, lit_3, lit_4, lit_5, lit_6, lit_7, lit_8, lit_9, lit_10, lit_11, lit_12, lit_13, lit_14, lit_15, lit_16, lit_20, lit_23, lit_24, lit_31, lit_32, lit_39, lit_43, lit_45, lit_47, lit_48, lit_56, lit_57, lit_59, lit_60, lit_62, lit_63, lit_89, lit_92, lit_96, lit_97, lit_99, lit_100, lit_102, lit_103, lit_104, lit_110, lit_111, lit_115, lit_117, lit_194, lit_200, lit_644, lit_736, lit_999, lit_1000, lit_9999, lit_10000, lit_1000000000, ↓wp_mlet, ↓wp_mbp, ↓wp_ite, ↓wp_mix, ↓wp_mdiv, ↓wp_mnz, ↓wp_some, ↓wp_mbnd, ↓mlet_eq, ↓mbp_eq, ↓mbnd_eq, ↓mix_ite, ↓mdiv_ite, ↓mnz_ite, nI_add, nI_mul, nI_nat, nI_ltE, nI_leE, nI_eqE, nI_eqN, nI_Neq, nI_Nlt, nI_Nle, nI_ltN, nI_leN, ↓reduceIte, ↓Nat.reduceEqDiff, and_f, nt_e, nt_t, nl_t, nl_f, ne_t, ne_f, and_self, or_self, or_true, true_or, or_false, false_or, if_true, if_false, and_true, true_and, and_false, false_and, not_true, not_false_iff]
    exact ⟨Rel_thr hr _, thr0⟩
theorem pair_mostAgreeing {n : Nat} {M : Mem} (hr : Rel n M) : Pair n (fun x => if x = 4 then 1 else 0) M f_X11_mostAgreeing f_X12_mostAgreeing := by
  have hr0 := hr
  obtain ⟨α, αh, αs, K, nx, fed, b, H, ⟨hk, hd, hb, hj⟩, hS, hH, hs, hx, hi, hih, his, hbb⟩ := hr
  obtain ⟨c1, c2⟩ := c_require hk hi
  unfold Pair f_X11_mostAgreeing
  by_cases he : en α
  · obtain ⟨r, M1, e1, rfl, f2⟩ := c_mostC (Kc0 hk hi he) (by decide)
    have hr0' : Rel n M1 := Rel_w0 hr0 (fun i hi => by rw [f2 12 47 (by decide)]) (fun a b hab => f2 a b (by omega))
    have hS1 : M1 12 48 = enc α := by rw [f2 12 48 (by decide)]; exact hS
    rw [c1 he]
    show wp (mbpxm (some (Sum.inr ())) M fun r1 => _) _
    unfold mbpxm
    simp (disch := omega) only [lit_0, lit_1, lit_2, lit_3, lit_4, lit_5, lit_6, lit_7, lit_8, lit_9, lit_10, lit_11, lit_12, lit_13, lit_14, lit_15, lit_16, lit_20, lit_23, lit_24, lit_31, lit_32, lit_39, lit_43, lit_45, lit_47, lit_48, lit_56, lit_57, lit_59, lit_60, lit_62, lit_63, lit_89, lit_92, lit_96, lit_97, lit_99, lit_100, lit_102, lit_103, lit_104, lit_110, lit_111, lit_115, lit_117, lit_194, lit_200, lit_644, lit_736, lit_999, lit_1000, lit_9999, lit_10000, lit_1000000000, ↓wp_mlet, ↓wp_mbp, ↓wp_ite, ↓wp_mix, ↓wp_mdiv, ↓wp_mnz, ↓wp_some, ↓wp_mbnd, ↓mlet_eq, ↓mbp_eq, ↓mbnd_eq, ↓mix_ite, ↓mdiv_ite, ↓mnz_ite, nI_add, nI_mul, nI_nat, nI_ltE, nI_leE, nI_eqE, nI_eqN, nI_Neq, nI_Nlt, nI_Nle, nI_ltN, nI_leN, ↓reduceIte, ↓Nat.reduceEqDiff, and_f, nt_e, nt_t, nl_t, nl_f, ne_t, ne_f, and_self, or_self, or_true, true_or, or_false, false_or, if_true, if_false, and_true, true_and, and_false, false_and, not_true, not_false_iff, e1]
    refine wp_mono ((m_mostAgree hr0' hS1 hi).1 he) ?_
    rintro r M2 ⟨rfl, h2, h3⟩
    exact ⟨h2, h3, rfl⟩
  · rw [c2 he]
    show wp (mbpxm (some (Sum.inl 4)) M fun r1 => _) _
    unfold mbpxm
    simp only [wp_some]
    refine wp_mono ((m_mostAgree hr0 hS hi).2 he) ?_
    rintro r M2 ⟨h2, h3⟩
    exact ⟨h2, h3, by decide, by decide⟩
theorem m_mostAgreeS {M : Mem} {H n : Nat} {α : Sp} (hr : Rel n M) (hS : M 12 48 = enc α) (hi : Inv H α) : (en α → wp (f_X12_mostAgreeingBySets M) fun r M2 => r = nI (mostA α) ∧ Rel (n + 1) M2 ∧ M2 12 47 0 = nI 0) ∧ (¬ en α → wp (f_X12_mostAgreeingBySets M) fun r M2 => Rel (n + 1) M2 ∧ M2 12 47 0 = nI 1) := by
  obtain ⟨m1, m2⟩ := m_mostAgree hr hS hi
  unfold f_X12_mostAgreeingBySets
  refine ⟨fun he => ?_, fun he => ?_⟩
  · rw [wp_mbnd]
    refine wp_mono (m1 he) ?_
    intro r M2 h
    rw [wp_some]
    exact h
  · rw [wp_mbnd]
    refine wp_mono (m2 he) ?_
    intro r M2 h
    rw [wp_some]
    exact h
theorem mostA_S {H : Nat} {α : Sp} (hi : Inv H α) (he : en α) : mx (fS (α 5) (sh α) (ky α)) (2 ^ (α 9)) = mostA α := by
  have hu := ky_tu hi (Nat.le_refl (α 9))
  obtain ⟨⟨b0, b1, b2, b3, b4, b5, b6, b7, b8, b9, b10, b11, b14⟩, i1, i2, bs, bk, bn, bz, bt, bg, bl⟩ := hi
  exact (most_CS ⟨i2 he.1, b5⟩ he.2 (by omega) bs hu).symm
theorem pair_mostAgreeingBySets {n : Nat} {M : Mem} (hr : Rel n M) : Pair n (fun x => if x = 4 then 1 else 0) M f_X11_mostAgreeingBySets f_X12_mostAgreeingBySets := by
  have hr0 := hr
  obtain ⟨α, αh, αs, K, nx, fed, b, H, ⟨hk, hd, hb, hj⟩, hS, hH, hs, hx, hi, hih, his, hbb⟩ := hr
  obtain ⟨c1, c2⟩ := c_require hk hi
  unfold Pair f_X11_mostAgreeingBySets
  by_cases he : en α
  · obtain ⟨r, M1, e1, rfl, f2⟩ := c_mostS (Kc0 hk hi he) (by decide)
    have hr0' : Rel n M1 := Rel_w0 hr0 (fun i hi => by rw [f2 12 47 (by decide)]) (fun a b hab => f2 a b (by omega))
    have hS1 : M1 12 48 = enc α := by rw [f2 12 48 (by decide)]; exact hS
    rw [mostA_S hi he] at e1
    rw [c1 he]
    show wp (mbpxm (some (Sum.inr ())) M fun r1 => _) _
    unfold mbpxm
    simp (disch := omega) only [lit_0, lit_1, lit_2, lit_3, lit_4, lit_5, lit_6, lit_7, lit_8, lit_9, lit_10, lit_11, lit_12, lit_13, lit_14, lit_15, lit_16, lit_20, lit_23, lit_24, lit_31, lit_32, lit_39, lit_43, lit_45, lit_47, lit_48, lit_56, lit_57, lit_59, lit_60, lit_62, lit_63, lit_89, lit_92, lit_96, lit_97, lit_99, lit_100, lit_102, lit_103, lit_104, lit_110, lit_111, lit_115, lit_117, lit_194, lit_200, lit_644, lit_736, lit_999, lit_1000, lit_9999, lit_10000, lit_1000000000, ↓wp_mlet, ↓wp_mbp, ↓wp_ite, ↓wp_mix, ↓wp_mdiv, ↓wp_mnz, ↓wp_some, ↓wp_mbnd, ↓mlet_eq, ↓mbp_eq, ↓mbnd_eq, ↓mix_ite, ↓mdiv_ite, ↓mnz_ite, nI_add, nI_mul, nI_nat, nI_ltE, nI_leE, nI_eqE, nI_eqN, nI_Neq, nI_Nlt, nI_Nle, nI_ltN, nI_leN, ↓reduceIte, ↓Nat.reduceEqDiff, and_f, nt_e, nt_t, nl_t, nl_f, ne_t, ne_f, and_self, or_self, or_true, true_or, or_false, false_or, if_true, if_false, and_true, true_and, and_false, false_and, not_true, not_false_iff, e1]
    refine wp_mono ((m_mostAgreeS hr0' hS1 hi).1 he) ?_
    rintro r M2 ⟨rfl, h2, h3⟩
    exact ⟨h2, h3, rfl⟩
  · rw [c2 he]
    show wp (mbpxm (some (Sum.inl 4)) M fun r1 => _) _
    unfold mbpxm
    simp only [wp_some]
    refine wp_mono ((m_mostAgreeS hr0 hS hi).2 he) ?_
    rintro r M2 ⟨h2, h3⟩
    exact ⟨h2, h3, by decide, by decide⟩
