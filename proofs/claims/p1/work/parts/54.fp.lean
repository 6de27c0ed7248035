/-! NUMBERS THAT AREN'T NaN -/
def okD (d : Jvm.FP.Core.Datum) : Prop := (∃ c q, d = .fin false c q ∧ c < 16777216 ∧ q ≤ 104) ∨ d = .inf false
theorem okD_enc {d : Jvm.FP.Core.Datum} (h : okD d) : Jvm.FP.Core.encode Jvm.FP.Core.b32 d ≤ 2139095040 := by
  rcases h with ⟨c, q, rfl, h1, h2⟩ | rfl
  · show (if c < 8388608 then (0 * 256 + 0) * 8388608 + c else (0 * 256 + ((q - (-149)).toNat + 1)) * 8388608 + (c - 8388608)) ≤ _
    split <;> omega
  · decide
theorem okD_settle {c : Nat} {q : Int} (h : c ≤ 16777216) : okD (Jvm.FP.Core.settle Jvm.FP.Core.b32 false c q) := by
  have hb : ∀ c q, c < 16777216 → okD (Jvm.FP.Core.bound Jvm.FP.Core.b32 false c q) := by
    intro c q h
    show okD (if q ≤ 104 then .fin false c q else .inf false)
    split
    · exact Or.inl ⟨c, q, rfl, h, by assumption⟩
    · exact Or.inr rfl
  show okD (if c < 16777216 then Jvm.FP.Core.bound Jvm.FP.Core.b32 false c q else Jvm.FP.Core.bound Jvm.FP.Core.b32 false 8388608 (q + 1))
  split
  · exact hb c q (by assumption)
  · exact hb _ _ (by decide)
theorem okD_round {c d : Nat} {e : Int} : okD (Jvm.FP.Core.roundRatio Jvm.FP.Core.b32 false c d e) := by
  have h0 : ∀ c q, okD (Jvm.FP.Core.settle Jvm.FP.Core.b32 false c q) := by
    intro c q
    show okD (if c < 16777216 then Jvm.FP.Core.bound Jvm.FP.Core.b32 false c q else Jvm.FP.Core.bound Jvm.FP.Core.b32 false 8388608 (q + 1))
    split
    · have := okD_settle (c := c) (q := q) (by omega)
      show okD (Jvm.FP.Core.bound Jvm.FP.Core.b32 false c q)
      show okD (if q ≤ 104 then .fin false c q else .inf false)
      split
      · exact Or.inl ⟨c, q, rfl, by assumption, by assumption⟩
      · exact Or.inr rfl
    · show okD (if q + 1 ≤ 104 then .fin false 8388608 (q + 1) else .inf false)
      split
      · exact Or.inl ⟨8388608, q + 1, rfl, by decide, by assumption⟩
      · exact Or.inr rfl
  unfold Jvm.FP.Core.roundRatio
  split
  · exact Or.inl ⟨0, _, rfl, by decide, by decide⟩
  · exact h0 _ _
theorem nn32 {n : Nat} (h : n ≤ 2139095040) : UInt32.ofNat n &&& 2147483647 ≤ 2139095040 := by
  rw [UInt32.le_iff_toNat_le, UInt32.toNat_and]
  refine Nat.le_trans Nat.and_le_left ?_
  show n % 4294967296 ≤ 2139095040
  omega
theorem i2f_fin {b : Nat} (hb : b < 16777216) : ∃ c q, Jvm.FP.Core.decode Jvm.FP.Core.b32 (Jvm.FP.Core.i2f (nI b)).toNat = .fin false c q ∧ (0 < b → c ≠ 0) := by
  have e0 : (Jvm.FP.Core.i2f (nI b)).toNat = Jvm.FP.Core.encode Jvm.FP.Core.b32 (Jvm.FP.Core.roundRatio Jvm.FP.Core.b32 false b 1 0) % 4294967296 := by
    show (UInt32.ofNat (Jvm.FP.Core.fromInt Jvm.FP.Core.b32 (nI b).toInt)).toNat = _
    rw [nI_toInt (by omega)]
    show Jvm.FP.Core.encode Jvm.FP.Core.b32 (Jvm.FP.Core.roundRatio Jvm.FP.Core.b32 (decide ((b : Int) < 0)) (b : Int).natAbs 1 0) % 4294967296 = _
    rw [decide_eq_false (by omega), Int.natAbs_natCast]
  rw [e0, Nat.mod_eq_of_lt (by have := okD_enc (okD_round (c := b) (d := 1) (e := 0)); omega)]
  by_cases h0 : b = 0
  · subst h0
    exact ⟨0, -149, by decide, fun h => by omega⟩
  obtain ⟨L, hL⟩ : ∃ L, b.log2 = L := ⟨_, rfl⟩
  have l1 : 2 ^ L ≤ b := by rw [← hL]; exact Nat.log2_self_le h0
  have l2 : b < 2 ^ (L + 1) := by rw [← hL]; exact Nat.lt_log2_self
  have l3 : L ≤ 23 := by
    by_cases q : L ≤ 23
    · exact q
    · have := Nat.pow_le_pow_right (show 0 < 2 by decide) (show 24 ≤ L by omega)
      omega
  have e1 : Jvm.FP.Core.leading b 1 = (L : Int) := by
    unfold Jvm.FP.Core.leading
    rw [hL]
    simp only [show Nat.log2 1 = 0 from by decide]
    rw [show ((L : Int) - ((0 : Nat) : Int)) = (L : Int) by omega, Int.toNat_natCast, show (-(L : Int)).toNat = 0 by omega]
    rw [if_pos (by omega)]
  have e2 : Jvm.FP.Core.quantum Jvm.FP.Core.b32 b 1 0 = (L : Int) - 23 := by
    show max (-149 : Int) (Jvm.FP.Core.leading b 1 + 0 - 23) = _
    rw [e1]
    omega
  obtain ⟨n, hn⟩ : ∃ n, b * 2 ^ (23 - L) = n := ⟨_, rfl⟩
  have n1 : 8388608 ≤ n := by
    have h := Nat.mul_le_mul_right (2 ^ (23 - L)) l1
    rw [← Nat.pow_add, show L + (23 - L) = 23 by omega] at h
    omega
  have n2 : n < 16777216 := by
    have h := Nat.mul_lt_mul_of_pos_right l2 (Nat.pow_pos (n := 23 - L) (show 0 < 2 by decide))
    rw [← Nat.pow_add, show L + 1 + (23 - L) = 24 by omega] at h
    omega
  have e3 : Jvm.FP.Core.roundRatio Jvm.FP.Core.b32 false b 1 0 = .fin false n ((L : Int) - 23) := by
    unfold Jvm.FP.Core.roundRatio
    rw [if_neg h0, e2]
    unfold Jvm.FP.Core.roundAt Jvm.FP.Core.unitsNum Jvm.FP.Core.unitsDen
    rw [show ((0 : Int) - ((L : Int) - 23)).toNat = 23 - L by omega, show ((L : Int) - 23 - 0).toNat = 0 by omega, hn]
    have e4 : Jvm.FP.Core.nearest n (1 * 2 ^ 0) = n := by
      unfold Jvm.FP.Core.nearest
      rw [show 1 * 2 ^ 0 = 1 from rfl, Nat.mod_one, if_pos (by decide), Nat.div_one]
    rw [e4]
    show (if n < 16777216 then (if (L : Int) - 23 ≤ 104 then Jvm.FP.Core.Datum.fin false n ((L : Int) - 23) else .inf false) else _) = _
    rw [if_pos n2, if_pos (by omega)]
  rw [e3]
  have e5 : Jvm.FP.Core.encode Jvm.FP.Core.b32 (.fin false n ((L : Int) - 23)) = (L + 127) * 8388608 + (n - 8388608) := by
    show (if n < 8388608 then _ else (0 * 256 + (((L : Int) - 23 - (-149)).toNat + 1)) * 8388608 + (n - 8388608)) = _
    rw [if_neg (by omega)]
    omega
  rw [e5]
  have f1 : Jvm.FP.Core.fieldE Jvm.FP.Core.b32 ((L + 127) * 8388608 + (n - 8388608)) = L + 127 := by
    show ((L + 127) * 8388608 + (n - 8388608)) / 8388608 % 256 = _
    omega
  have f2 : Jvm.FP.Core.fieldS Jvm.FP.Core.b32 ((L + 127) * 8388608 + (n - 8388608)) = false := by
    show (((L + 127) * 8388608 + (n - 8388608)) / 8388608 / 256 % 2 == 1) = false
    have : ((L + 127) * 8388608 + (n - 8388608)) / 8388608 / 256 % 2 = 0 := by omega
    rw [this]
    rfl
  unfold Jvm.FP.Core.decode
  rw [f1, f2]
  rw [if_neg (show ¬ L + 127 = Jvm.FP.Core.b32.exps - 1 by show ¬ L + 127 = 255; omega), if_neg (show ¬ L + 127 = 0 by omega)]
  exact ⟨_, _, rfl, fun _ => by show 8388608 + _ ≠ 0; omega⟩
theorem nn_fdiv {a b : Nat} (ha : a < 16777216) (hb : b < 16777216) (h0 : 0 < b) : Jvm.FP.fdiv (Jvm.FP.i2f (nI a)) (Jvm.FP.i2f (nI b)) &&& 2147483647 ≤ 2139095040 := by
  obtain ⟨c, q, e1, -⟩ := i2f_fin ha
  obtain ⟨d, r, e2, h2⟩ := i2f_fin hb
  show UInt32.ofNat (Jvm.FP.Core.encode Jvm.FP.Core.b32 (Jvm.FP.Core.quotient Jvm.FP.Core.b32 (Jvm.FP.Core.decode Jvm.FP.Core.b32 (Jvm.FP.Core.i2f (nI a)).toNat) (Jvm.FP.Core.decode Jvm.FP.Core.b32 (Jvm.FP.Core.i2f (nI b)).toNat))) &&& 2147483647 ≤ 2139095040
  rw [e1, e2]
  refine nn32 (okD_enc ?_)
  show okD (if d = 0 then _ else Jvm.FP.Core.roundRatio Jvm.FP.Core.b32 (false != false) c d (q - r))
  rw [if_neg (h2 h0)]
  exact okD_round
theorem nn_mean : ∀ s : Fin 161, Jvm.FP.ddiv (Jvm.FP.i2d (nI s.val)) (4620693217682128896 : UInt64) &&& 9223372036854775807 ≤ 9218868437227405312 := by decide +kernel
/-! the mean noise -/
theorem sumN_le {f : Nat → Nat} {B : Nat} : ∀ n, (∀ k, k < n → f k ≤ B) → sumN f n ≤ B * n
  | 0, _ => Nat.le_refl _
  | n + 1, h => by
    have h1 := sumN_le n (fun k hk => h k (by omega))
    have h2 := h n (by omega)
    rw [sumN_s, Nat.mul_succ]
    omega
def PairU (n : Nat) (M : Mem) (fc : Mem → Option UInt64) (fm : Mem → Option (UInt64 × Mem)) : Prop := ∃ v, fc M = some v ∧ wp (fm M) (fun r M2 => Rel (n + 1) M2 ∧ v = r)
def AgF (cat : Nat → Nat) (o : Nat ⊕ UInt32) (r : UInt32) (th : Int32) : Prop := match o with
  | .inl x => th = nI (cat x) ∧ 1 ≤ cat x ∧ cat x ≤ 3
  | .inr v => th = nI 0 ∧ v = r
def PairF (n : Nat) (cat : Nat → Nat) (M : Mem) (fc : Mem → Option (Nat ⊕ UInt32)) (fm : Mem → Option (UInt32 × Mem)) : Prop := ∃ v, fc M = some v ∧ wp (fm M) (fun r M2 => Rel (n + 1) M2 ∧ AgF cat v r (M2 12 47 0))
theorem pair_meanNoise {n : Nat} {M : Mem} (hr : Rel n M) : PairU n M f_X11_meanNoise f_X12_meanNoise := by
  have hr' := Rel_thr hr
  obtain ⟨α, αh, αs, K, nx, fed, b, H, hR, hS, hH, hs, hx, hi, hih, his, hbb⟩ := hr
  have e1 := c_sumOf (M := M) (ia := 7) (f := fun k => α (31 + k)) hR.2.2.1.2.2.2.1
  have hz := hi.2.2.2.2.2.2.1
  have l := sumN_le (f := fun k => α (31 + k)) (B := 20) 8 (fun k hk => (hz k hk).1)
  have hS' := ms_t (x := nI 0) hS
  have nn : Jvm.FP.ddiv (Jvm.FP.i2d (nI (sumN (fun k => α (31 + k)) 8))) (4620693217682128896 : UInt64) &&& 9223372036854775807 ≤ 9218868437227405312 := nn_mean ⟨sumN (fun k => α (31 + k)) 8, by omega⟩
  have key : ∀ kk, f_X12_meanNoise_L9 (mup M 12 47 0 (nI 0)) 1000 (nI 0) (nI 0) kk = kk (nI (sumN (fun k => α (31 + k)) 8)) := by
    generalize hN : (1000 : Nat) = N
    intro kk
    exact mloop (F := fun n x s kk => f_X12_meanNoise_L9 (mup M 12 47 0 (nI 0)) n s x kk) (c := 8) (fun x => nI (sumN (fun k => α (31 + k)) x)) (fun m x kk hx => by
      show f_X12_meanNoise_L9 (mup M 12 47 0 (nI 0)) (m + 1) (nI (sumN (fun k => α (31 + k)) x)) (nI x) kk = f_X12_meanNoise_L9 (mup M 12 47 0 (nI 0)) m (nI (sumN (fun k => α (31 + k)) (x + 1))) (nI (x + 1)) kk
      have e2 : (mup M 12 47 0 (nI 0)) 12 48 (31 + x) = nI (α (31 + x)) := ms_n hS' (by omega)
      rw [f_X12_meanNoise_L9.eq_2, sumN_s]
      simp (disch := omega) only [lit_0, lit_1, lit_2, lit_3, lit_4, lit_5, lit_6, lit_7, lit_8, lit_9, lit_10, lit_11, lit_12, lit_13, lit_14, lit_15, lit_16, lit_20, lit_23, lit_24, lit_31, lit_32, lit_39, lit_43, lit_45, lit_47, lit_48, lit_56, lit_57, lit_59, lit_60, lit_62, lit_63, lit_89, lit_92, lit_96, lit_97, lit_99, lit_100, lit_102, lit_103, lit_104, lit_110, lit_111, lit_115, lit_117, lit_194, lit_200, lit_644, lit_736, lit_999, lit_1000, lit_9999, lit_10000, lit_1000000000, ↓wp_mlet, ↓wp_mbp, ↓wp_ite, ↓wp_mix, ↓wp_mdiv, ↓wp_mnz, ↓wp_some, ↓wp_mbnd, ↓mlet_eq, ↓mbp_eq, ↓mbnd_eq, ↓mix_ite, ↓mdiv_ite, ↓mnz_ite, nI_add, nI_mul, nI_nat, nI_ltE, nI_leE, nI_eqE, nI_eqN, nI_Neq, nI_Nlt, nI_Nle, nI_ltN, nI_leN, ↓reduceIte, ↓Nat.reduceEqDiff, and_f, nt_e, nt_t, nl_t, nl_f, ne_t, ne_f, and_self, or_self, or_true, true_or, or_false, false_or, if_true, if_false, and_true, true_and, and_false, false_and, not_true, not_false_iff, e2]) (fun m kk => by
      show f_X12_meanNoise_L9 (mup M 12 47 0 (nI 0)) (m + 1) (nI (sumN (fun k => α (31 + k)) 8)) (nI 8) kk = _
      rw [f_X12_meanNoise_L9.eq_2]
      simp (disch := omega) only [lit_0, lit_1, lit_2, lit_3, lit_4, lit_5, lit_6, lit_7, lit_8, lit_9, lit_10, lit_11, lit_12, lit_13, lit_14, lit_15, lit_16, lit_20, lit_23, lit_24, lit_31, lit_32, lit_39, lit_43, lit_45, lit_47, lit_48, lit_56, lit_57, lit_59, lit_60, lit_62, lit_63, lit_89, lit_92, lit_96, lit_97, lit_99, lit_100, lit_102, lit_103, lit_104, lit_110, lit_111, lit_115, lit_117, lit_194, lit_200, lit_644, lit_736, lit_999, lit_1000, lit_9999, lit_10000, lit_1000000000, ↓wp_mlet, ↓wp_mbp, ↓wp_ite, ↓wp_mix, ↓wp_mdiv, ↓wp_mnz, ↓wp_some, ↓wp_mbnd, ↓mlet_eq, ↓mbp_eq, ↓mbnd_eq, ↓mix_ite, ↓mdiv_ite, ↓mnz_ite, nI_add, nI_mul, nI_nat, nI_ltE, nI_leE, nI_eqE, nI_eqN, nI_Neq, nI_Nlt, nI_Nle, nI_ltN, nI_leN, ↓reduceIte, ↓Nat.reduceEqDiff, and_f, nt_e, nt_t, nl_t, nl_f, ne_t, ne_f, and_self, or_self, or_true, true_or, or_false, false_or, if_true, if_false, and_true, true_and, and_false, false_and, not_true, not_false_iff]) 8 N 0 kk (by omega) (by omega)
  unfold PairU f_X11_meanNoise f_X12_meanNoise
  simp only [lit_0, lit_1, lit_2, lit_3, lit_4, lit_5, lit_6, lit_7, lit_8, lit_9, lit_10, lit_11, lit_12, lit_13, lit_14, lit_15, lit_16, lit_20, lit_23, lit_24, lit_31, lit_32, lit_39, lit_43, lit_45, lit_47, lit_48, lit_56, lit_57, lit_59, lit_60, lit_62, lit_63, lit_89, lit_92, lit_96, lit_97, lit_99, lit_100, lit_102, lit_103, lit_104, lit_110, lit_111, lit_115, lit_117, lit_194, lit_200, lit_644, lit_736, lit_999, lit_1000, lit_9999, lit_10000, lit_1000000000, mlet_eq]
  rw [e1, key, mbp_eq]
  generalize sumN (fun k => α (31 + k)) 8 = s at nn
  unfold mn64
  refine ⟨_, if_pos nn, ?_⟩
  rw [if_pos nn, wp_some]
  exact ⟨hr' _, rfl⟩
theorem pair_alarmShare {n : Nat} {M : Mem} (hr : Rel n M) (hn : n < 512) (a1 : Int32) : PairF n (fun x => if x = 2 then 1 else if x = 6 then 2 else 0) M (f_X11_alarmShare a1) (f_X12_alarmShare a1) := by
  have hr' := Rel_thr hr
  obtain ⟨α, αh, αs, K, nx, fed, b, H, hR, hS, hH, hs, hx, hi, hih, his, hbb⟩ := hr
  obtain ⟨⟨b0, b1, b2, b3, b4, b5, b6, b7, b8, b9, b10, b11, b14⟩, i1, i2, bs, bk, bn, bz, bt, bg, bl⟩ := hi
  have hS' := fun x => ms_t (x := x) hS
  have e13 := hR.2.2.1.2.1
  have bz' := fun k hk => (bz k hk).2
  have bz0 := bz' 0 (by decide)
  have bz1 := bz' 1 (by decide)
  have bz2 := bz' 2 (by decide)
  have bz3 := bz' 3 (by decide)
  have bz4 := bz' 4 (by decide)
  have bz5 := bz' 5 (by decide)
  have bz6 := bz' 6 (by decide)
  have bz7 := bz' 7 (by decide)
  simp only [Nat.add_zero, Nat.reduceAdd] at bz0 bz1 bz2 bz3 bz4 bz5 bz6 bz7
  unfold PairF f_X11_alarmShare f_X12_alarmShare f_X11_requireZone
  have t0 : ∀ (M : Mem) x, (mup M 12 47 0 x) 12 47 0 = x := fun M x => thr0
  have m13 := fun x => ms_n (hS' x) (show ¬ (13 = 48 ∨ 13 = 51 ∨ 13 = 54) by decide)
  rcases idx_c a1 8 (by decide) with ⟨z, hz, rfl, e1⟩ | ⟨e1, h⟩
  · have ez := hR.2.2.1.2.2.2.2.1 z hz
    have mz := fun x => ms_n (hS' x) (show ¬ (39 + z = 48 ∨ 39 + z = 51 ∨ 39 + z = 54) by omega)
    have lz := bz' z hz
    by_cases q : α 13 = 0
    · refine ⟨.inl 6, ?_, ?_⟩
      · simp (disch := omega) only [lit_0, lit_1, lit_2, lit_3, lit_4, lit_5, lit_6, lit_7, lit_8, lit_9, lit_10, lit_11, lit_12, lit_13, lit_14, lit_15, lit_16, lit_20, lit_23, lit_24, lit_31, lit_32, lit_39, lit_43, lit_45, lit_47, lit_48, lit_56, lit_57, lit_59, lit_60, lit_62, lit_63, lit_89, lit_92, lit_96, lit_97, lit_99, lit_100, lit_102, lit_103, lit_104, lit_110, lit_111, lit_115, lit_117, lit_194, lit_200, lit_644, lit_736, lit_999, lit_1000, lit_9999, lit_10000, lit_1000000000, ↓wp_mlet, ↓wp_mbp, ↓wp_ite, ↓wp_mix, ↓wp_mdiv, ↓wp_mnz, ↓wp_some, ↓wp_mbnd, ↓mlet_eq, ↓mbp_eq, ↓mbnd_eq, ↓mix_ite, ↓mdiv_ite, ↓mnz_ite, nI_add, nI_mul, nI_nat, nI_ltE, nI_leE, nI_eqE, nI_eqN, nI_Neq, nI_Nlt, nI_Nle, nI_ltN, nI_leN, ↓reduceIte, ↓Nat.reduceEqDiff, and_f, nt_e, nt_t, nl_t, nl_f, ne_t, ne_f, and_self, or_self, or_true, true_or, or_false, false_or, if_true, if_false, and_true, true_and, and_false, false_and, not_true, not_false_iff, toNat_0, Bool.false_and, Bool.true_and, Bool.and_false, Bool.and_true, Bool.false_eq_true, reduceCtorEq, Bool.true_eq_false, Bool.not_true, Bool.not_false, c_hasZone, e1, mbpx_r, e13, q]
      · simp (disch := omega) only [lit_0, lit_1, lit_2, lit_3, lit_4, lit_5, lit_6, lit_7, lit_8, lit_9, lit_10, lit_11, lit_12, lit_13, lit_14, lit_15, lit_16, lit_20, lit_23, lit_24, lit_31, lit_32, lit_39, lit_43, lit_45, lit_47, lit_48, lit_56, lit_57, lit_59, lit_60, lit_62, lit_63, lit_89, lit_92, lit_96, lit_97, lit_99, lit_100, lit_102, lit_103, lit_104, lit_110, lit_111, lit_115, lit_117, lit_194, lit_200, lit_644, lit_736, lit_999, lit_1000, lit_9999, lit_10000, lit_1000000000, ↓wp_mlet, ↓wp_mbp, ↓wp_ite, ↓wp_mix, ↓wp_mdiv, ↓wp_mnz, ↓wp_some, ↓wp_mbnd, ↓mlet_eq, ↓mbp_eq, ↓mbnd_eq, ↓mix_ite, ↓mdiv_ite, ↓mnz_ite, nI_add, nI_mul, nI_nat, nI_ltE, nI_leE, nI_eqE, nI_eqN, nI_Neq, nI_Nlt, nI_Nle, nI_ltN, nI_leN, ↓reduceIte, ↓Nat.reduceEqDiff, and_f, nt_e, nt_t, nl_t, nl_f, ne_t, ne_f, and_self, or_self, or_true, true_or, or_false, false_or, if_true, if_false, and_true, true_and, and_false, false_and, not_true, not_false_iff, toNat_0, Bool.false_and, Bool.true_and, Bool.and_false, Bool.and_true, Bool.false_eq_true, reduceCtorEq, Bool.true_eq_false, Bool.not_true, Bool.not_false, m_isZone, e1, ms_n hS, q, t0]
        exact ⟨hr' _, rfl, by decide, by decide⟩
    · have nn := nn_fdiv (a := α (39 + z)) (b := α 13) (by omega) (by omega) (by omega)
      refine ⟨.inr (Jvm.FP.fdiv (Jvm.FP.i2f (nI (α (39 + z)))) (Jvm.FP.i2f (nI (α 13)))), ?_, ?_⟩
      · simp (disch := omega) only [lit_0, lit_1, lit_2, lit_3, lit_4, lit_5, lit_6, lit_7, lit_8, lit_9, lit_10, lit_11, lit_12, lit_13, lit_14, lit_15, lit_16, lit_20, lit_23, lit_24, lit_31, lit_32, lit_39, lit_43, lit_45, lit_47, lit_48, lit_56, lit_57, lit_59, lit_60, lit_62, lit_63, lit_89, lit_92, lit_96, lit_97, lit_99, lit_100, lit_102, lit_103, lit_104, lit_110, lit_111, lit_115, lit_117, lit_194, lit_200, lit_644, lit_736, lit_999, lit_1000, lit_9999, lit_10000, lit_1000000000, ↓wp_mlet, ↓wp_mbp, ↓wp_ite, ↓wp_mix, ↓wp_mdiv, ↓wp_mnz, ↓wp_some, ↓wp_mbnd, ↓mlet_eq, ↓mbp_eq, ↓mbnd_eq, ↓mix_ite, ↓mdiv_ite, ↓mnz_ite, nI_add, nI_mul, nI_nat, nI_ltE, nI_leE, nI_eqE, nI_eqN, nI_Neq, nI_Nlt, nI_Nle, nI_ltN, nI_leN, ↓reduceIte, ↓Nat.reduceEqDiff, and_f, nt_e, nt_t, nl_t, nl_f, ne_t, ne_f, and_self, or_self, or_true, true_or, or_false, false_or, if_true, if_false, and_true, true_and, and_false, false_and, not_true, not_false_iff, toNat_0, Bool.false_and, Bool.true_and, Bool.and_false, Bool.and_true, Bool.false_eq_true, reduceCtorEq, Bool.true_eq_false, Bool.not_true, Bool.not_false, c_hasZone, e1, mbpx_r, e13, ez]
        unfold mn32
        rw [if_pos nn]
      · simp (disch := omega) only [lit_0, lit_1, lit_2, lit_3, lit_4, lit_5, lit_6, lit_7, lit_8, lit_9, lit_10, lit_11, lit_12, lit_13, lit_14, lit_15, lit_16, lit_20, lit_23, lit_24, lit_31, lit_32, lit_39, lit_43, lit_45, lit_47, lit_48, lit_56, lit_57, lit_59, lit_60, lit_62, lit_63, lit_89, lit_92, lit_96, lit_97, lit_99, lit_100, lit_102, lit_103, lit_104, lit_110, lit_111, lit_115, lit_117, lit_194, lit_200, lit_644, lit_736, lit_999, lit_1000, lit_9999, lit_10000, lit_1000000000, ↓wp_mlet, ↓wp_mbp, ↓wp_ite, ↓wp_mix, ↓wp_mdiv, ↓wp_mnz, ↓wp_some, ↓wp_mbnd, ↓mlet_eq, ↓mbp_eq, ↓mbnd_eq, ↓mix_ite, ↓mdiv_ite, ↓mnz_ite, nI_add, nI_mul, nI_nat, nI_ltE, nI_leE, nI_eqE, nI_eqN, nI_Neq, nI_Nlt, nI_Nle, nI_ltN, nI_leN, ↓reduceIte, ↓Nat.reduceEqDiff, and_f, nt_e, nt_t, nl_t, nl_f, ne_t, ne_f, and_self, or_self, or_true, true_or, or_false, false_or, if_true, if_false, and_true, true_and, and_false, false_and, not_true, not_false_iff, toNat_0, Bool.false_and, Bool.true_and, Bool.and_false, Bool.and_true, Bool.false_eq_true, reduceCtorEq, Bool.true_eq_false, Bool.not_true, Bool.not_false, m_isZone, e1, ms_n hS, t0, mz, m13]
        unfold mn32
        rw [if_pos nn, wp_some]
        exact ⟨hr' _, thr0, rfl⟩
  · refine ⟨.inl 2, ?_, ?_⟩
    · simp (disch := omega) only [lit_0, lit_1, lit_2, lit_3, lit_4, lit_5, lit_6, lit_7, lit_8, lit_9, lit_10, lit_11, lit_12, lit_13, lit_14, lit_15, lit_16, lit_20, lit_23, lit_24, lit_31, lit_32, lit_39, lit_43, lit_45, lit_47, lit_48, lit_56, lit_57, lit_59, lit_60, lit_62, lit_63, lit_89, lit_92, lit_96, lit_97, lit_99, lit_100, lit_102, lit_103, lit_104, lit_110, lit_111, lit_115, lit_117, lit_194, lit_200, lit_644, lit_736, lit_999, lit_1000, lit_9999, lit_10000, lit_1000000000, ↓wp_mlet, ↓wp_mbp, ↓wp_ite, ↓wp_mix, ↓wp_mdiv, ↓wp_mnz, ↓wp_some, ↓wp_mbnd, ↓mlet_eq, ↓mbp_eq, ↓mbnd_eq, ↓mix_ite, ↓mdiv_ite, ↓mnz_ite, nI_add, nI_mul, nI_nat, nI_ltE, nI_leE, nI_eqE, nI_eqN, nI_Neq, nI_Nlt, nI_Nle, nI_ltN, nI_leN, ↓reduceIte, ↓Nat.reduceEqDiff, and_f, nt_e, nt_t, nl_t, nl_f, ne_t, ne_f, and_self, or_self, or_true, true_or, or_false, false_or, if_true, if_false, and_true, true_and, and_false, false_and, not_true, not_false_iff, toNat_0, Bool.false_and, Bool.true_and, Bool.and_false, Bool.and_true, Bool.false_eq_true, reduceCtorEq, Bool.true_eq_false, Bool.not_true, Bool.not_false, c_hasZone, e1, mbpx_l]
    · simp (disch := omega) only [lit_0, lit_1, lit_2, lit_3, lit_4, lit_5, lit_6, lit_7, lit_8, lit_9, lit_10, lit_11, lit_12, lit_13, lit_14, lit_15, lit_16, lit_20, lit_23, lit_24, lit_31, lit_32, lit_39, lit_43, lit_45, lit_47, lit_48, lit_56, lit_57, lit_59, lit_60, lit_62, lit_63, lit_89, lit_92, lit_96, lit_97, lit_99, lit_100, lit_102, lit_103, lit_104, lit_110, lit_111, lit_115, lit_117, lit_194, lit_200, lit_644, lit_736, lit_999, lit_1000, lit_9999, lit_10000, lit_1000000000, ↓wp_mlet, ↓wp_mbp, ↓wp_ite, ↓wp_mix, ↓wp_mdiv, ↓wp_mnz, ↓wp_some, ↓wp_mbnd, ↓mlet_eq, ↓mbp_eq, ↓mbnd_eq, ↓mix_ite, ↓mdiv_ite, ↓mnz_ite, nI_add, nI_mul, nI_nat, nI_ltE, nI_leE, nI_eqE, nI_eqN, nI_Neq, nI_Nlt, nI_Nle, nI_ltN, nI_leN, ↓reduceIte, ↓Nat.reduceEqDiff, and_f, nt_e, nt_t, nl_t, nl_f, ne_t, ne_f, and_self, or_self, or_true, true_or, or_false, false_or, if_true, if_false, and_true, true_and, and_false, false_and, not_true, not_false_iff, toNat_0, Bool.false_and, Bool.true_and, Bool.and_false, Bool.and_true, Bool.false_eq_true, reduceCtorEq, Bool.true_eq_false, Bool.not_true, Bool.not_false, m_isZone, e1, t0]
      exact ⟨hr' _, rfl, by decide, by decide⟩
