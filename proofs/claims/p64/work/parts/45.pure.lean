/-! TEXTS. tx: the signs, L: how many. A reader's state: well so far, place, how many numbers, the numbers -/
abbrev Rdr : Type := Bool × Nat × Nat × (Nat → Nat)
def isAt (tx : Nat → Nat) (L p : Nat) (c : Int32) : Bool := decide (p < L) && decide (nI (tx p) = c)
def ml (tx : Nat → Nat) (L : Nat) : List Int32 → Nat → Nat
  | [], _ => 0
  | c :: cs, p => if isAt tx L p c = true then 1 + ml tx L cs (p + 1) else 0
theorem ml_c {tx : Nat → Nat} {L p : Nat} {c : Int32} {cs : List Int32} : ml tx L (c :: cs) p = if isAt tx L p c = true then 1 + ml tx L cs (p + 1) else 0 := Eq.trans rfl rfl
theorem ml_n {tx : Nat → Nat} {L p : Nat} : ml tx L [] p = 0 := Eq.trans rfl rfl
theorem isAt_lt {tx : Nat → Nat} {L p : Nat} {c : Int32} (h : isAt tx L p c = true) : p < L ∧ nI (tx p) = c := by
  unfold isAt at h
  rw [Bool.and_eq_true, decide_eq_true_iff, decide_eq_true_iff] at h
  exact h
theorem isAt_f {tx : Nat → Nat} {L p : Nat} {c : Int32} (h : ¬ isAt tx L p c = true) (hp : p < L) : ¬ nI (tx p) = c := fun q => h (by
  unfold isAt
  rw [decide_eq_true hp, decide_eq_true q]; rfl)
theorem ml_le {tx : Nat → Nat} {L : Nat} : ∀ (ls : List Int32) p, ml tx L ls p ≤ ls.length
  | [], _ => Nat.le_refl _
  | c :: cs, p => by
    have := ml_le (tx := tx) (L := L) cs (p + 1)
    rw [ml_c, List.length_cons]
    split <;> omega
theorem ml_L {tx : Nat → Nat} {L : Nat} : ∀ (ls : List Int32) p, p ≤ L → p + ml tx L ls p ≤ L
  | [], p, h => h
  | c :: cs, p, h => by
    rw [ml_c]
    split
    · rename_i q
      have := ml_L (tx := tx) (L := L) cs (p + 1) (isAt_lt q).1
      omega
    · exact h
theorem ml_app {tx : Nat → Nat} {L : Nat} (bs : List Int32) : ∀ (as : List Int32) p, ml tx L (as ++ bs) p = if ml tx L as p = as.length then as.length + ml tx L bs (p + as.length) else ml tx L as p
  | [], p => by simp [ml_n]
  | c :: cs, p => by
    have ih := ml_app (tx := tx) (L := L) bs cs (p + 1)
    rw [List.cons_append, ml_c, ml_c, List.length_cons, ih]
    have hl := ml_le (tx := tx) (L := L) cs (p + 1)
    by_cases q : isAt tx L p c = true
    · rw [if_pos q, if_pos q]
      by_cases r : ml tx L cs (p + 1) = cs.length
      · rw [if_pos r, if_pos (by omega), show p + 1 + cs.length = p + (cs.length + 1) by omega]
        omega
      · rw [if_neg r, if_neg (by omega)]
    · rw [if_neg q, if_neg q, if_neg (by omega)]
def lit (tx : Nat → Nat) (L : Nat) (ls : List Int32) (r : Rdr) : Rdr := if r.1 = true then (decide (ml tx L ls r.2.1 = ls.length), r.2.1 + ml tx L ls r.2.1, r.2.2) else r
def isD (tx : Nat → Nat) (L p : Nat) : Bool := decide (p < L) && (decide (48 ≤ tx p) && decide (tx p ≤ 57))
theorem isD_t {tx : Nat → Nat} {L p : Nat} : (isD tx L p = true) = (p < L ∧ 48 ≤ tx p ∧ tx p ≤ 57) := by
  unfold isD
  rw [Bool.and_eq_true, Bool.and_eq_true, decide_eq_true_iff, decide_eq_true_iff, decide_eq_true_iff]
def dgc (tx : Nat → Nat) (L : Nat) : Nat → Nat → Nat
  | 0, _ => 0
  | m + 1, p => if isD tx L p = true then 1 + dgc tx L m (p + 1) else 0
def dgv (tx : Nat → Nat) (L : Nat) : Nat → Nat → Nat → Nat
  | 0, _, v => v
  | m + 1, p, v => if isD tx L p = true then dgv tx L m (p + 1) (v * 10 + (tx p - 48)) else v
theorem dgc_s {tx : Nat → Nat} {L m p : Nat} : dgc tx L (m + 1) p = if isD tx L p = true then 1 + dgc tx L m (p + 1) else 0 := Eq.trans rfl rfl
theorem dgv_s {tx : Nat → Nat} {L m p v : Nat} : dgv tx L (m + 1) p v = if isD tx L p = true then dgv tx L m (p + 1) (v * 10 + (tx p - 48)) else v := Eq.trans rfl rfl
theorem dgc_L {tx : Nat → Nat} {L : Nat} : ∀ m p, p ≤ L → p + dgc tx L m p ≤ L
  | 0, p, h => h
  | m + 1, p, h => by
    rw [dgc_s]
    split
    · rename_i q
      rw [isD_t] at q
      have := dgc_L (tx := tx) (L := L) m (p + 1) (by omega)
      omega
    · exact h
def pushn (v : Nat) (r : Rdr) : Rdr := (r.1, r.2.1, r.2.2.1 + 1, fun j => if j = r.2.2.1 then v else r.2.2.2 j)
def num (tx : Nat → Nat) (L m : Nat) (r : Rdr) : Rdr := if r.1 = true then (if dgc tx L m r.2.1 = 0 then (false, r.2) else pushn (dgv tx L m r.2.1 0) (true, r.2.1 + dgc tx L m r.2.1, r.2.2)) else r
def dir (tx : Nat → Nat) (L : Nat) (r : Rdr) : Rdr := if r.1 = true then (if isAt tx L r.2.1 43 = true then pushn 1 (true, r.2.1 + 1, r.2.2) else if isAt tx L r.2.1 45 = true then pushn 0 (true, r.2.1 + 1, r.2.2) else (false, r.2)) else r
theorem lit_no {tx : Nat → Nat} {L : Nat} {ls : List Int32} {r : Rdr} (h : ¬ r.1 = true) : lit tx L ls r = r := if_neg h
theorem num_no {tx : Nat → Nat} {L m : Nat} {r : Rdr} (h : ¬ r.1 = true) : num tx L m r = r := if_neg h
theorem dir_no {tx : Nat → Nat} {L : Nat} {r : Rdr} (h : ¬ r.1 = true) : dir tx L r = r := if_neg h
theorem lit_app {tx : Nat → Nat} {L : Nat} (as bs : List Int32) (r : Rdr) : lit tx L (as ++ bs) r = lit tx L bs (lit tx L as r) := by
  by_cases h : r.1 = true
  · unfold lit
    rw [if_pos h, if_pos h, ml_app, List.length_append]
    have l1 := ml_le (tx := tx) (L := L) as r.2.1
    by_cases q : ml tx L as r.2.1 = as.length
    · rw [if_pos q, if_pos (decide_eq_true q)]
      simp only [q]
      refine Prod.ext ?_ (Prod.ext ?_ rfl)
      · exact dec_cg (by omega)
      · show r.2.1 + (as.length + _) = r.2.1 + as.length + _
        omega
    · rw [if_neg q, if_neg (show ¬ decide (ml tx L as r.2.1 = as.length) = true by rw [decide_eq_false q]; decide)]
      refine Prod.ext ?_ rfl
      exact dec_cg (by omega)
  · rw [lit_no h, lit_no h, lit_no h]
/-- one sign of a form -/
def opF (tx : Nat → Nat) (L : Nat) (c : Int32) (r : Rdr) : Rdr := if c = 100 then num tx L 1 r else if c = 110 then num tx L 2 r else if c = 115 then dir tx L r else lit tx L [32] r
def frmS (tx : Nat → Nat) (L : Nat) : List Int32 → Rdr → Rdr
  | [], r => r
  | c :: cs, r => if c = 63 then (if isAt tx L r.2.1 32 = true then frmS tx L cs r else pushn 1 r) else (if (opF tx L c r).1 = true then frmS tx L cs (opF tx L c r) else opF tx L c r)
theorem frm_c {tx : Nat → Nat} {L : Nat} {c : Int32} {cs : List Int32} {r : Rdr} : frmS tx L (c :: cs) r = if c = 63 then (if isAt tx L r.2.1 32 = true then frmS tx L cs r else pushn 1 r) else (if (opF tx L c r).1 = true then frmS tx L cs (opF tx L c r) else opF tx L c r) := Eq.trans rfl rfl
/-- the word that begins at p, by its first two letters -/
def wsel (tx : Nat → Nat) (L p : Nat) : Option Nat := if isAt tx L p 104 = true then (if isAt tx L (p + 1) 117 = true then some 9 else some 0) else if isAt tx L p 115 = true then (if isAt tx L (p + 1) 104 = true then some 2 else some 1) else if isAt tx L p 103 = true then (if isAt tx L (p + 1) 117 = true then some 7 else some 3) else if isAt tx L p 98 = true then some 4 else if isAt tx L p 111 = true then some 5 else if isAt tx L p 99 = true then some 6 else if isAt tx L p 116 = true then some 8 else if isAt tx L p 119 = true then some 10 else none
def ltr (w : Nat) : List Int32 := mTx.getD (mLt.getD w 0) []
def frm (w : Nat) : List Int32 := mTx.getD (mFm.getD w 0) []
def r0 (p : Nat) (ns : Nat → Nat) : Rdr := (true, p, 0, ns)
/-- one command -/
def cmdS (tx : Nat → Nat) (L p : Nat) (ns : Nat → Nat) : Rdr := match wsel tx L p with
  | none => (false, p, 0, ns)
  | some w => if (lit tx L (ltr w) (r0 p ns)).1 = true then frmS tx L (frm w) (lit tx L (ltr w) (r0 p ns)) else lit tx L (ltr w) (r0 p ns)
/-! the class -/
def Txt (M : Mem) (tx : Nat → Nat) (L : Nat) : Prop := L ≤ 60 ∧ M 12 26 1 = nI L ∧ ∀ i, i < L → M 12 27 i = nI (tx i) ∧ tx i < 65536
def pk (tx : Nat → Nat) (L p : Nat) : Int32 := if p < L then nI (tx p) else -nI 1
theorem c_peek {M : Mem} {tx : Nat → Nat} {L p : Nat} (h : Txt M tx L) (hp : M 12 26 2 = nI p) (hl : p ≤ L) : f_X2_peek M = some (pk tx L p) := by
  obtain ⟨h1, h2, h3⟩ := h
  unfold f_X2_peek pk
  by_cases q : p < L
  · rw [if_pos q]
    simp (disch := omega) only [lit_0, lit_1, lit_2, lit_3, lit_4, lit_5, lit_6, lit_7, lit_8, lit_9, lit_10, lit_11, lit_12, lit_13, lit_14, lit_15, lit_16, lit_20, lit_23, lit_24, lit_31, lit_32, lit_39, lit_43, lit_45, lit_47, lit_48, lit_56, lit_57, lit_59, lit_60, lit_62, lit_63, lit_89, lit_92, lit_96, lit_97, lit_99, lit_100, lit_102, lit_103, lit_104, lit_110, lit_111, lit_115, lit_117, lit_194, lit_200, lit_644, lit_736, lit_999, lit_1000, lit_9999, lit_10000, lit_1000000000, ↓wp_mlet, ↓wp_mbp, ↓wp_ite, ↓wp_mix, ↓wp_mdiv, ↓wp_mnz, ↓wp_some, ↓wp_mbnd, ↓mlet_eq, ↓mbp_eq, ↓mbnd_eq, ↓mix_ite, ↓mdiv_ite, ↓mnz_ite, nI_add, nI_mul, nI_nat, nI_ltE, nI_leE, nI_eqE, nI_eqN, nI_Neq, nI_Nlt, nI_Nle, nI_ltN, nI_leN, ↓reduceIte, ↓Nat.reduceEqDiff, and_f, nt_e, nt_t, nl_t, nl_f, ne_t, ne_f, and_self, or_self, or_true, true_or, or_false, false_or, if_true, if_false, and_true, true_and, and_false, false_and, not_true, not_false_iff, h2, hp, (h3 p q).1]
  · rw [if_neg q]
    simp (disch := omega) only [lit_0, lit_1, lit_2, lit_3, lit_4, lit_5, lit_6, lit_7, lit_8, lit_9, lit_10, lit_11, lit_12, lit_13, lit_14, lit_15, lit_16, lit_20, lit_23, lit_24, lit_31, lit_32, lit_39, lit_43, lit_45, lit_47, lit_48, lit_56, lit_57, lit_59, lit_60, lit_62, lit_63, lit_89, lit_92, lit_96, lit_97, lit_99, lit_100, lit_102, lit_103, lit_104, lit_110, lit_111, lit_115, lit_117, lit_194, lit_200, lit_644, lit_736, lit_999, lit_1000, lit_9999, lit_10000, lit_1000000000, ↓wp_mlet, ↓wp_mbp, ↓wp_ite, ↓wp_mix, ↓wp_mdiv, ↓wp_mnz, ↓wp_some, ↓wp_mbnd, ↓mlet_eq, ↓mbp_eq, ↓mbnd_eq, ↓mix_ite, ↓mdiv_ite, ↓mnz_ite, nI_add, nI_mul, nI_nat, nI_ltE, nI_leE, nI_eqE, nI_eqN, nI_Neq, nI_Nlt, nI_Nle, nI_ltN, nI_leN, ↓reduceIte, ↓Nat.reduceEqDiff, and_f, nt_e, nt_t, nl_t, nl_f, ne_t, ne_f, and_self, or_self, or_true, true_or, or_false, false_or, if_true, if_false, and_true, true_and, and_false, false_and, not_true, not_false_iff, h2, hp]
theorem pk_at {tx : Nat → Nat} {L p c : Nat} (htx : ∀ i, i < L → tx i < 65536) (hc : c < 65536) : (pk tx L p = nI c) = (isAt tx L p (nI c) = true) := by
  unfold pk isAt
  by_cases q : p < L
  · rw [if_pos q, decide_eq_true q, Bool.true_and, decide_eq_true_iff]
  · rw [if_neg q, decide_eq_false q, Bool.false_and, nI_Neq (by omega) (by decide) (by decide)]
    simp
/-- the class's reader, at its command c -/
def Cst (M0 M : Mem) (tx : Nat → Nat) (L c : Nat) (r : Rdr) : Prop := Txt M tx L ∧ (M 12 26 2 = nI r.2.1 ∧ M 12 26 3 = nI c ∧ M 12 26 6 = nI r.2.2.1) ∧ (r.2.1 ≤ L ∧ c < 15 ∧ r.2.2.1 ≤ 4) ∧ (∀ j, j < r.2.2.1 → M 12 (30 + c) j = nI (r.2.2.2 j)) ∧ ∀ a b, ¬ (a = 12 ∧ (b = 26 ∨ b = 30 + c)) → M a b = M0 a b
theorem Cst.at {M0 M M1 : Mem} {tx : Nat → Nat} {L c p : Nat} {r : Rdr} (h : Cst M0 M tx L c r) (hp : p ≤ L) (ok : Bool) (hM : M1 = mup M 12 26 2 (nI p)) : Cst M0 M1 tx L c (ok, p, r.2.2) := by
  obtain ⟨⟨h1, h2, h3⟩, ⟨h4, h5, h6⟩, ⟨h7, h8, h9⟩, h10, h11⟩ := h
  subst hM
  refine ⟨⟨h1, ?_, fun i hi => ?_⟩, ⟨?_, ?_, ?_⟩, ⟨hp, h8, h9⟩, fun j hj => ?_, fun a b hab => ?_⟩
  · rw [mup_at, if_neg (by decide)]; exact h2
  · rw [mup_at, if_neg (by omega)]; exact h3 i hi
  · rw [mup_at, if_pos (by decide)]
  · rw [mup_at, if_neg (by decide)]; exact h5
  · rw [mup_at, if_neg (by decide)]; exact h6
  · rw [mup_at, if_neg (by omega)]; exact h10 j hj
  · rw [pm_ne (by omega)]; exact h11 a b hab
theorem Cst.ok {M0 M : Mem} {tx : Nat → Nat} {L c : Nat} {r : Rdr} (h : Cst M0 M tx L c r) (ok : Bool) : Cst M0 M tx L c (ok, r.2) := h
theorem c_addNumber {M0 M : Mem} {tx : Nat → Nat} {L c v : Nat} {r : Rdr} (h : Cst M0 M tx L c r) (hn : r.2.2.1 < 4) : wp (f_X2_addNumber (nI v) M) fun _ M1 => Cst M0 M1 tx L c (pushn v r) := by
  obtain ⟨⟨h1, h2, h3⟩, ⟨h4, h5, h6⟩, ⟨h7, h8, h9⟩, h10, h11⟩ := h
  have e6 : (mup M 12 (30 + c) r.2.2.1 (nI v)) 12 26 6 = nI r.2.2.1 := by rw [mup_at, if_neg (by omega)]; exact h6
  unfold f_X2_addNumber
  simp (disch := omega) only [lit_0, lit_1, lit_2, lit_3, lit_4, lit_5, lit_6, lit_7, lit_8, lit_9, lit_10, lit_11, lit_12, lit_13, lit_14, lit_15, lit_16, lit_20, lit_23, lit_24, lit_31, lit_32, lit_39, lit_43, lit_45, lit_47, lit_48, lit_56, lit_57, lit_59, lit_60, lit_62, lit_63, lit_89, lit_92, lit_96, lit_97, lit_99, lit_100, lit_102, lit_103, lit_104, lit_110, lit_111, lit_115, lit_117, lit_194, lit_200, lit_644, lit_736, lit_999, lit_1000, lit_9999, lit_10000, lit_1000000000, ↓wp_mlet, ↓wp_mbp, ↓wp_ite, ↓wp_mix, ↓wp_mdiv, ↓wp_mnz, ↓wp_some, ↓wp_mbnd, ↓mlet_eq, ↓mbp_eq, ↓mbnd_eq, ↓mix_ite, ↓mdiv_ite, ↓mnz_ite, nI_add, nI_mul, nI_nat, nI_ltE, nI_leE, nI_eqE, nI_eqN, nI_Neq, nI_Nlt, nI_Nle, nI_ltN, nI_leN, ↓reduceIte, ↓Nat.reduceEqDiff, and_f, nt_e, nt_t, nl_t, nl_f, ne_t, ne_f, and_self, or_self, or_true, true_or, or_false, false_or, if_true, if_false, and_true, true_and, and_false, false_and, not_true, not_false_iff, h5, h6, e6]
  refine ⟨⟨h1, ?_, fun i hi => ?_⟩, ⟨?_, ?_, ?_⟩, ⟨h7, h8, ?_⟩, fun j hj => ?_, fun a b hab => ?_⟩
  · rw [mup_at, if_neg (by decide), mup_at, if_neg (by omega)]; exact h2
  · rw [mup_at, if_neg (by omega), mup_at, if_neg (by omega)]; exact h3 i hi
  · rw [mup_at, if_neg (by omega), mup_at, if_neg (by omega)]; exact h4
  · rw [mup_at, if_neg (by omega), mup_at, if_neg (by omega)]; exact h5
  · rw [mup_at, if_pos (by decide)]; rfl
  · show r.2.2.1 + 1 ≤ 4
    omega
  · rw [mup_at, if_neg (by omega), mup_at]
    show _ = nI (if j = r.2.2.1 then v else r.2.2.2 j)
    by_cases q : j = r.2.2.1
    · rw [if_pos (by omega), if_pos q]
    · rw [if_neg (by omega), if_neg q]
      exact h10 j (by have : j < r.2.2.1 + 1 := hj; omega)
  · rw [pm_ne (by omega), pm_ne (by omega)]; exact h11 a b hab
theorem lit32_t {tx : Nat → Nat} {L : Nat} {r : Rdr} (h : r.1 = true) (q : isAt tx L r.2.1 32 = true) : lit tx L [32] r = (true, r.2.1 + 1, r.2.2) := by
  unfold lit
  rw [if_pos h, ml_c, if_pos q, ml_n]
  rfl
theorem lit32_f {tx : Nat → Nat} {L : Nat} {r : Rdr} (h : r.1 = true) (q : ¬ isAt tx L r.2.1 32 = true) : lit tx L [32] r = (false, r.2) := by
  unfold lit
  rw [if_pos h, ml_c, if_neg q]
  rfl
theorem c_blank {M0 M : Mem} {tx : Nat → Nat} {L c : Nat} {r : Rdr} (h : Cst M0 M tx L c r) (hr : r.1 = true) : wp (f_X2_readBlank M) fun v M1 => v = nI (lit tx L [32] r).1.toNat ∧ Cst M0 M1 tx L c (lit tx L [32] r) := by
  have h' := h
  obtain ⟨ht, ⟨h4, h5, h6⟩, ⟨h7, h8, h9⟩, h10, h11⟩ := h'
  have e := c_peek ht h4 h7
  have e32 := pk_at (tx := tx) (L := L) (p := r.2.1) (c := 32) (fun i hi => (ht.2.2 i hi).2) (by decide)
  unfold f_X2_readBlank
  by_cases q : isAt tx L r.2.1 32 = true
  · have l := (isAt_lt q).1
    have e2 : pk tx L r.2.1 = nI 32 := by rw [e32]; exact q
    rw [lit32_t hr q]
    simp (disch := omega) only [lit_0, lit_1, lit_2, lit_3, lit_4, lit_5, lit_6, lit_7, lit_8, lit_9, lit_10, lit_11, lit_12, lit_13, lit_14, lit_15, lit_16, lit_20, lit_23, lit_24, lit_31, lit_32, lit_39, lit_43, lit_45, lit_47, lit_48, lit_56, lit_57, lit_59, lit_60, lit_62, lit_63, lit_89, lit_92, lit_96, lit_97, lit_99, lit_100, lit_102, lit_103, lit_104, lit_110, lit_111, lit_115, lit_117, lit_194, lit_200, lit_644, lit_736, lit_999, lit_1000, lit_9999, lit_10000, lit_1000000000, ↓wp_mlet, ↓wp_mbp, ↓wp_ite, ↓wp_mix, ↓wp_mdiv, ↓wp_mnz, ↓wp_some, ↓wp_mbnd, ↓mlet_eq, ↓mbp_eq, ↓mbnd_eq, ↓mix_ite, ↓mdiv_ite, ↓mnz_ite, nI_add, nI_mul, nI_nat, nI_ltE, nI_leE, nI_eqE, nI_eqN, nI_Neq, nI_Nlt, nI_Nle, nI_ltN, nI_leN, ↓reduceIte, ↓Nat.reduceEqDiff, and_f, nt_e, nt_t, nl_t, nl_f, ne_t, ne_f, and_self, or_self, or_true, true_or, or_false, false_or, if_true, if_false, and_true, true_and, and_false, false_and, not_true, not_false_iff, e, e2, h4]
    exact ⟨rfl, h.at (p := r.2.1 + 1) (by omega) true rfl⟩
  · have e2 : ¬ pk tx L r.2.1 = nI 32 := by rw [e32]; exact q
    rw [lit32_f hr q, e, mbp_eq, lit_32, if_neg e2, wp_some]
    exact ⟨rfl, h⟩
theorem c_dir {M0 M : Mem} {tx : Nat → Nat} {L c : Nat} {r : Rdr} (h : Cst M0 M tx L c r) (hr : r.1 = true) (hn : r.2.2.1 < 4) : wp (f_X2_readDirection M) fun v M1 => v = nI (dir tx L r).1.toNat ∧ Cst M0 M1 tx L c (dir tx L r) := by
  have h' := h
  obtain ⟨ht, ⟨h4, h5, h6⟩, ⟨h7, h8, h9⟩, h10, h11⟩ := h'
  have e := c_peek ht h4 h7
  have e43 := pk_at (tx := tx) (L := L) (p := r.2.1) (c := 43) (fun i hi => (ht.2.2 i hi).2) (by decide)
  have e45 := pk_at (tx := tx) (L := L) (p := r.2.1) (c := 45) (fun i hi => (ht.2.2 i hi).2) (by decide)
  unfold f_X2_readDirection dir
  rw [if_pos hr]
  by_cases q : isAt tx L r.2.1 43 = true
  · have l := (isAt_lt q).1
    have e2 : pk tx L r.2.1 = nI 43 := by rw [e43]; exact q
    rw [if_pos q]
    have h1 := h.at (p := r.2.1 + 1) (by omega) true rfl
    obtain ⟨⟨⟩, M1, e5, h6'⟩ := c_addNumber (v := 1) h1 hn
    simp (disch := omega) only [lit_0, lit_1, lit_2, lit_3, lit_4, lit_5, lit_6, lit_7, lit_8, lit_9, lit_10, lit_11, lit_12, lit_13, lit_14, lit_15, lit_16, lit_20, lit_23, lit_24, lit_31, lit_32, lit_39, lit_43, lit_45, lit_47, lit_48, lit_56, lit_57, lit_59, lit_60, lit_62, lit_63, lit_89, lit_92, lit_96, lit_97, lit_99, lit_100, lit_102, lit_103, lit_104, lit_110, lit_111, lit_115, lit_117, lit_194, lit_200, lit_644, lit_736, lit_999, lit_1000, lit_9999, lit_10000, lit_1000000000, ↓wp_mlet, ↓wp_mbp, ↓wp_ite, ↓wp_mix, ↓wp_mdiv, ↓wp_mnz, ↓wp_some, ↓wp_mbnd, ↓mlet_eq, ↓mbp_eq, ↓mbnd_eq, ↓mix_ite, ↓mdiv_ite, ↓mnz_ite, nI_add, nI_mul, nI_nat, nI_ltE, nI_leE, nI_eqE, nI_eqN, nI_Neq, nI_Nlt, nI_Nle, nI_ltN, nI_leN, ↓reduceIte, ↓Nat.reduceEqDiff, and_f, nt_e, nt_t, nl_t, nl_f, ne_t, ne_f, and_self, or_self, or_true, true_or, or_false, false_or, if_true, if_false, and_true, true_and, and_false, false_and, not_true, not_false_iff, e, e2, h4, e5]
    exact ⟨rfl, h6'⟩
  · have e2 : ¬ pk tx L r.2.1 = nI 43 := by rw [e43]; exact q
    rw [if_neg q]
    by_cases q2 : isAt tx L r.2.1 45 = true
    · have l := (isAt_lt q2).1
      have e3 : pk tx L r.2.1 = nI 45 := by rw [e45]; exact q2
      rw [if_pos q2]
      have h1 := h.at (p := r.2.1 + 1) (by omega) true rfl
      obtain ⟨⟨⟩, M1, e5, h6'⟩ := c_addNumber (v := 0) h1 hn
      simp (disch := omega) only [lit_0, lit_1, lit_2, lit_3, lit_4, lit_5, lit_6, lit_7, lit_8, lit_9, lit_10, lit_11, lit_12, lit_13, lit_14, lit_15, lit_16, lit_20, lit_23, lit_24, lit_31, lit_32, lit_39, lit_43, lit_45, lit_47, lit_48, lit_56, lit_57, lit_59, lit_60, lit_62, lit_63, lit_89, lit_92, lit_96, lit_97, lit_99, lit_100, lit_102, lit_103, lit_104, lit_110, lit_111, lit_115, lit_117, lit_194, lit_200, lit_644, lit_736, lit_999, lit_1000, lit_9999, lit_10000, lit_1000000000, ↓wp_mlet, ↓wp_mbp, ↓wp_ite, ↓wp_mix, ↓wp_mdiv, ↓wp_mnz, ↓wp_some, ↓wp_mbnd, ↓mlet_eq, ↓mbp_eq, ↓mbnd_eq, ↓mix_ite, ↓mdiv_ite, ↓mnz_ite, nI_add, nI_mul, nI_nat, nI_ltE, nI_leE, nI_eqE, nI_eqN, nI_Neq, nI_Nlt, nI_Nle, nI_ltN, nI_leN, ↓reduceIte, ↓Nat.reduceEqDiff, and_f, nt_e, nt_t, nl_t, nl_f, ne_t, ne_f, and_self, or_self, or_true, true_or, or_false, false_or, if_true, if_false, and_true, true_and, and_false, false_and, not_true, not_false_iff, e, e3, h4, e5]
      exact ⟨rfl, h6'⟩
    · have e3 : ¬ pk tx L r.2.1 = nI 45 := by rw [e45]; exact q2
      rw [if_neg q2, e, mbp_eq]
      simp only [mlet_eq, lit_0, lit_1, lit_2, lit_3, lit_4, lit_5, lit_6, lit_7, lit_8, lit_9, lit_10, lit_11, lit_12, lit_13, lit_14, lit_15, lit_16, lit_20, lit_23, lit_24, lit_31, lit_32, lit_39, lit_43, lit_45, lit_47, lit_48, lit_56, lit_57, lit_59, lit_60, lit_62, lit_63, lit_89, lit_92, lit_96, lit_97, lit_99, lit_100, lit_102, lit_103, lit_104, lit_110, lit_111, lit_115, lit_117, lit_194, lit_200, lit_644, lit_736, lit_999, lit_1000, lit_9999, lit_10000, lit_1000000000]
      rw [if_neg e2, if_neg e3, wp_some]
      exact ⟨rfl, h⟩
theorem c_digits {M0 : Mem} {tx : Nat → Nat} {L c m : Nat} (kk : Int32 → Int32 → Mem → Option (Int32 × Mem)) : ∀ d N x v (r : Rdr) (M : Mem), x + d = m → d < N → m ≤ 2 → Cst M0 M tx L c r → ∃ M1, Cst M0 M1 tx L c (r.1, r.2.1 + dgc tx L d r.2.1, r.2.2) ∧ f_X2_readNumber_L4 (nI m) N (nI x) (nI v) M kk = kk (nI (x + dgc tx L d r.2.1)) (nI (dgv tx L d r.2.1 v)) M1 := by
  intro d
  induction d with
  | zero =>
    intro N x v r M h1 h2 hm h
    obtain ⟨n, rfl⟩ : ∃ n, N = n + 1 := ⟨N - 1, by omega⟩
    refine ⟨M, h, ?_⟩
    rw [f_X2_readNumber_L4.eq_2, if_pos (by rw [nI_leE (by omega) (by omega)]; omega)]
    rfl
  | succ d ih =>
    intro N x v r M h1 h2 hm h
    obtain ⟨n, rfl⟩ : ∃ n, N = n + 1 := ⟨N - 1, by omega⟩
    have h' := h
    obtain ⟨ht, ⟨h4, h5, h6⟩, ⟨h7, h8, h9⟩, h10, h11⟩ := h'
    have e := c_peek ht h4 h7
    rw [f_X2_readNumber_L4.eq_2, dgc_s, dgv_s]
    by_cases q : isD tx L r.2.1 = true
    · rw [if_pos q, if_pos q]
      rw [isD_t] at q
      have e2 : pk tx L r.2.1 = nI (tx r.2.1) := if_pos q.1
      have h3 := h.at (p := r.2.1 + 1) (by omega) r.1 rfl
      obtain ⟨M1, k1, k2⟩ := ih n (x + 1) (v * 10 + (tx r.2.1 - 48)) (r.1, r.2.1 + 1, r.2.2) _ (by omega) (by omega) hm h3
      refine ⟨M1, ?_, ?_⟩
      · rw [show r.2.1 + (1 + dgc tx L d (r.2.1 + 1)) = r.2.1 + 1 + dgc tx L d (r.2.1 + 1) by omega]
        exact k1
      · have e3 : nI (v * 10 + tx r.2.1) - nI 48 = nI (v * 10 + (tx r.2.1 - 48)) := by rw [nI_subE (by omega)]; congr 1; omega
        simp (disch := omega) only [lit_0, lit_1, lit_2, lit_3, lit_4, lit_5, lit_6, lit_7, lit_8, lit_9, lit_10, lit_11, lit_12, lit_13, lit_14, lit_15, lit_16, lit_20, lit_23, lit_24, lit_31, lit_32, lit_39, lit_43, lit_45, lit_47, lit_48, lit_56, lit_57, lit_59, lit_60, lit_62, lit_63, lit_89, lit_92, lit_96, lit_97, lit_99, lit_100, lit_102, lit_103, lit_104, lit_110, lit_111, lit_115, lit_117, lit_194, lit_200, lit_644, lit_736, lit_999, lit_1000, lit_9999, lit_10000, lit_1000000000, ↓wp_mlet, ↓wp_mbp, ↓wp_ite, ↓wp_mix, ↓wp_mdiv, ↓wp_mnz, ↓wp_some, ↓wp_mbnd, ↓mlet_eq, ↓mbp_eq, ↓mbnd_eq, ↓mix_ite, ↓mdiv_ite, ↓mnz_ite, nI_add, nI_mul, nI_nat, nI_ltE, nI_leE, nI_eqE, nI_eqN, nI_Neq, nI_Nlt, nI_Nle, nI_ltN, nI_leN, ↓reduceIte, ↓Nat.reduceEqDiff, and_f, nt_e, nt_t, nl_t, nl_f, ne_t, ne_f, and_self, or_self, or_true, true_or, or_false, false_or, if_true, if_false, and_true, true_and, and_false, false_and, not_true, not_false_iff, e, e2, h4, e3]
        rw [show x + (1 + dgc tx L d (r.2.1 + 1)) = x + 1 + dgc tx L d (r.2.1 + 1) by omega]
        exact k2
    · rw [if_neg q, if_neg q]
      refine ⟨M, h, ?_⟩
      rw [isD_t] at q
      by_cases q1 : r.2.1 < L
      · have e2 : pk tx L r.2.1 = nI (tx r.2.1) := if_pos q1
        have lt := (ht.2.2 r.2.1 q1).2
        by_cases q2 : tx r.2.1 < 48
        · simp (disch := omega) only [lit_0, lit_1, lit_2, lit_3, lit_4, lit_5, lit_6, lit_7, lit_8, lit_9, lit_10, lit_11, lit_12, lit_13, lit_14, lit_15, lit_16, lit_20, lit_23, lit_24, lit_31, lit_32, lit_39, lit_43, lit_45, lit_47, lit_48, lit_56, lit_57, lit_59, lit_60, lit_62, lit_63, lit_89, lit_92, lit_96, lit_97, lit_99, lit_100, lit_102, lit_103, lit_104, lit_110, lit_111, lit_115, lit_117, lit_194, lit_200, lit_644, lit_736, lit_999, lit_1000, lit_9999, lit_10000, lit_1000000000, ↓wp_mlet, ↓wp_mbp, ↓wp_ite, ↓wp_mix, ↓wp_mdiv, ↓wp_mnz, ↓wp_some, ↓wp_mbnd, ↓mlet_eq, ↓mbp_eq, ↓mbnd_eq, ↓mix_ite, ↓mdiv_ite, ↓mnz_ite, nI_add, nI_mul, nI_nat, nI_ltE, nI_leE, nI_eqE, nI_eqN, nI_Neq, nI_Nlt, nI_Nle, nI_ltN, nI_leN, ↓reduceIte, ↓Nat.reduceEqDiff, and_f, nt_e, nt_t, nl_t, nl_f, ne_t, ne_f, and_self, or_self, or_true, true_or, or_false, false_or, if_true, if_false, and_true, true_and, and_false, false_and, not_true, not_false_iff, e, e2, Nat.add_zero]
        · simp (disch := omega) only [lit_0, lit_1, lit_2, lit_3, lit_4, lit_5, lit_6, lit_7, lit_8, lit_9, lit_10, lit_11, lit_12, lit_13, lit_14, lit_15, lit_16, lit_20, lit_23, lit_24, lit_31, lit_32, lit_39, lit_43, lit_45, lit_47, lit_48, lit_56, lit_57, lit_59, lit_60, lit_62, lit_63, lit_89, lit_92, lit_96, lit_97, lit_99, lit_100, lit_102, lit_103, lit_104, lit_110, lit_111, lit_115, lit_117, lit_194, lit_200, lit_644, lit_736, lit_999, lit_1000, lit_9999, lit_10000, lit_1000000000, ↓wp_mlet, ↓wp_mbp, ↓wp_ite, ↓wp_mix, ↓wp_mdiv, ↓wp_mnz, ↓wp_some, ↓wp_mbnd, ↓mlet_eq, ↓mbp_eq, ↓mbnd_eq, ↓mix_ite, ↓mdiv_ite, ↓mnz_ite, nI_add, nI_mul, nI_nat, nI_ltE, nI_leE, nI_eqE, nI_eqN, nI_Neq, nI_Nlt, nI_Nle, nI_ltN, nI_leN, ↓reduceIte, ↓Nat.reduceEqDiff, and_f, nt_e, nt_t, nl_t, nl_f, ne_t, ne_f, and_self, or_self, or_true, true_or, or_false, false_or, if_true, if_false, and_true, true_and, and_false, false_and, not_true, not_false_iff, e, e2, Nat.add_zero]
      · have e2 : pk tx L r.2.1 = -nI 1 := if_neg q1
        simp (disch := omega) only [lit_0, lit_1, lit_2, lit_3, lit_4, lit_5, lit_6, lit_7, lit_8, lit_9, lit_10, lit_11, lit_12, lit_13, lit_14, lit_15, lit_16, lit_20, lit_23, lit_24, lit_31, lit_32, lit_39, lit_43, lit_45, lit_47, lit_48, lit_56, lit_57, lit_59, lit_60, lit_62, lit_63, lit_89, lit_92, lit_96, lit_97, lit_99, lit_100, lit_102, lit_103, lit_104, lit_110, lit_111, lit_115, lit_117, lit_194, lit_200, lit_644, lit_736, lit_999, lit_1000, lit_9999, lit_10000, lit_1000000000, ↓wp_mlet, ↓wp_mbp, ↓wp_ite, ↓wp_mix, ↓wp_mdiv, ↓wp_mnz, ↓wp_some, ↓wp_mbnd, ↓mlet_eq, ↓mbp_eq, ↓mbnd_eq, ↓mix_ite, ↓mdiv_ite, ↓mnz_ite, nI_add, nI_mul, nI_nat, nI_ltE, nI_leE, nI_eqE, nI_eqN, nI_Neq, nI_Nlt, nI_Nle, nI_ltN, nI_leN, ↓reduceIte, ↓Nat.reduceEqDiff, and_f, nt_e, nt_t, nl_t, nl_f, ne_t, ne_f, and_self, or_self, or_true, true_or, or_false, false_or, if_true, if_false, and_true, true_and, and_false, false_and, not_true, not_false_iff, e, e2, Nat.add_zero]
theorem c_rdnum {M0 M : Mem} {tx : Nat → Nat} {L c m : Nat} {r : Rdr} (h : Cst M0 M tx L c r) (hr : r.1 = true) (hn : r.2.2.1 < 4) (hm : m ≤ 2) : wp (f_X2_readNumber (nI m) M) fun v M1 => v = nI (num tx L m r).1.toNat ∧ Cst M0 M1 tx L c (num tx L m r) := by
  unfold f_X2_readNumber num
  rw [if_pos hr]
  generalize hN : (1000 : Nat) = N
  obtain ⟨M1, h1, k1⟩ := c_digits (M0 := M0) (c := c) (m := m) (fun x13 x14 M15 => if x13 = 0 then some (0, M15) else mbnd (f_X2_addNumber x14 M15) fun r17 M18 => some (1, M18)) m N 0 0 r M (by omega) (by omega) hm h
  have e0 : f_X2_readNumber_L4 (nI m) N 0 0 M (fun x13 x14 M15 => if x13 = 0 then some (0, M15) else mbnd (f_X2_addNumber x14 M15) fun r17 M18 => some (1, M18)) = f_X2_readNumber_L4 (nI m) N (nI 0) (nI 0) M (fun x13 x14 M15 => if x13 = 0 then some (0, M15) else mbnd (f_X2_addNumber x14 M15) fun r17 M18 => some (1, M18)) := rfl
  rw [e0, k1, Nat.zero_add]
  have l := dgc_L (tx := tx) (L := L) m r.2.1 h.2.2.1.1
  have l2 := h.1.1
  by_cases q : dgc tx L m r.2.1 = 0
  · rw [if_pos q, q]
    simp (disch := omega) only [lit_0, lit_1, lit_2, lit_3, lit_4, lit_5, lit_6, lit_7, lit_8, lit_9, lit_10, lit_11, lit_12, lit_13, lit_14, lit_15, lit_16, lit_20, lit_23, lit_24, lit_31, lit_32, lit_39, lit_43, lit_45, lit_47, lit_48, lit_56, lit_57, lit_59, lit_60, lit_62, lit_63, lit_89, lit_92, lit_96, lit_97, lit_99, lit_100, lit_102, lit_103, lit_104, lit_110, lit_111, lit_115, lit_117, lit_194, lit_200, lit_644, lit_736, lit_999, lit_1000, lit_9999, lit_10000, lit_1000000000, ↓wp_mlet, ↓wp_mbp, ↓wp_ite, ↓wp_mix, ↓wp_mdiv, ↓wp_mnz, ↓wp_some, ↓wp_mbnd, ↓mlet_eq, ↓mbp_eq, ↓mbnd_eq, ↓mix_ite, ↓mdiv_ite, ↓mnz_ite, nI_add, nI_mul, nI_nat, nI_ltE, nI_leE, nI_eqE, nI_eqN, nI_Neq, nI_Nlt, nI_Nle, nI_ltN, nI_leN, ↓reduceIte, ↓Nat.reduceEqDiff, and_f, nt_e, nt_t, nl_t, nl_f, ne_t, ne_f, and_self, or_self, or_true, true_or, or_false, false_or, if_true, if_false, and_true, true_and, and_false, false_and, not_true, not_false_iff]
    refine ⟨rfl, ?_⟩
    rw [q] at h1
    exact h1
  · rw [if_neg q]
    rw [hr] at h1
    obtain ⟨⟨⟩, M2, e2, h2⟩ := c_addNumber (v := dgv tx L m r.2.1 0) h1 hn
    simp (disch := omega) only [lit_0, lit_1, lit_2, lit_3, lit_4, lit_5, lit_6, lit_7, lit_8, lit_9, lit_10, lit_11, lit_12, lit_13, lit_14, lit_15, lit_16, lit_20, lit_23, lit_24, lit_31, lit_32, lit_39, lit_43, lit_45, lit_47, lit_48, lit_56, lit_57, lit_59, lit_60, lit_62, lit_63, lit_89, lit_92, lit_96, lit_97, lit_99, lit_100, lit_102, lit_103, lit_104, lit_110, lit_111, lit_115, lit_117, lit_194, lit_200, lit_644, lit_736, lit_999, lit_1000, lit_9999, lit_10000, lit_1000000000, ↓wp_mlet, ↓wp_mbp, ↓wp_ite, ↓wp_mix, ↓wp_mdiv, ↓wp_mnz, ↓wp_some, ↓wp_mbnd, ↓mlet_eq, ↓mbp_eq, ↓mbnd_eq, ↓mix_ite, ↓mdiv_ite, ↓mnz_ite, nI_add, nI_mul, nI_nat, nI_ltE, nI_leE, nI_eqE, nI_eqN, nI_Neq, nI_Nlt, nI_Nle, nI_ltN, nI_leN, ↓reduceIte, ↓Nat.reduceEqDiff, and_f, nt_e, nt_t, nl_t, nl_f, ne_t, ne_f, and_self, or_self, or_true, true_or, or_false, false_or, if_true, if_false, and_true, true_and, and_false, false_and, not_true, not_false_iff, e2]
    exact ⟨rfl, h2⟩
theorem toNat_le {b : Bool} : b.toNat < 2 := by cases b <;> decide
theorem toNat_0' {b : Bool} : (b.toNat = 0) = (b = false) := by cases b <;> decide
theorem c_part {M0 M : Mem} {tx : Nat → Nat} {L c : Nat} {x : Int32} {r : Rdr} (h : Cst M0 M tx L c r) (hr : r.1 = true) (hn : x ≠ 32 → r.2.2.1 < 4) : wp (f_X2_readPart x M) fun v M1 => v = nI (opF tx L x r).1.toNat ∧ Cst M0 M1 tx L c (opF tx L x r) := by
  have st : ∀ {y : Option (Int32 × Mem)} {r2 : Rdr}, wp y (fun v M1 => v = nI r2.1.toNat ∧ Cst M0 M1 tx L c r2) → wp (mbnd y fun r10 M11 => mnz r10 (some (r10, M11))) (fun v M1 => v = nI r2.1.toNat ∧ Cst M0 M1 tx L c r2) := by
    rintro y r2 ⟨v, M1, e, rfl, h1⟩
    rw [e, mbnd_eq, mnz_eq toNat_le, wp_some]
    exact ⟨rfl, h1⟩
  unfold f_X2_readPart opF
  by_cases q1 : x = 100
  · have hn1 := hn (by rw [q1]; decide)
    rw [if_pos q1, if_pos q1]
    exact st (c_rdnum (m := 1) h hr hn1 (by decide))
  rw [if_neg q1, if_neg q1]
  by_cases q2 : x = 110
  · have hn1 := hn (by rw [q2]; decide)
    rw [if_pos q2, if_pos q2]
    exact st (c_rdnum (m := 2) h hr hn1 (by decide))
  rw [if_neg q2, if_neg q2]
  by_cases q3 : x = 115
  · have hn1 := hn (by rw [q3]; decide)
    rw [if_pos q3, if_pos q3]
    exact st (c_dir h hr hn1)
  rw [if_neg q3, if_neg q3]
  exact st (c_blank h hr)
/-- how many numbers a form has -/
def nnum : List Int32 → Nat
  | [] => 0
  | c :: cs => (if c = 32 then 0 else 1) + nnum cs
theorem nnum_c {c : Int32} {cs : List Int32} : nnum (c :: cs) = (if c = 32 then 0 else 1) + nnum cs := Eq.trans rfl rfl
theorem lit_cnt {tx : Nat → Nat} {L : Nat} {ls : List Int32} {r : Rdr} : (lit tx L ls r).2.2 = r.2.2 := by
  unfold lit
  split <;> rfl
theorem num_cnt {tx : Nat → Nat} {L m : Nat} {r : Rdr} : (num tx L m r).2.2.1 ≤ r.2.2.1 + 1 := by
  unfold num
  split
  · split
    · exact Nat.le_succ _
    · exact Nat.le_refl _
  · exact Nat.le_succ _
theorem dir_cnt {tx : Nat → Nat} {L : Nat} {r : Rdr} : (dir tx L r).2.2.1 ≤ r.2.2.1 + 1 := by
  unfold dir
  split
  · split
    · exact Nat.le_refl _
    · split
      · exact Nat.le_refl _
      · exact Nat.le_succ _
  · exact Nat.le_succ _
theorem opF_cnt {tx : Nat → Nat} {L : Nat} {c : Int32} {r : Rdr} : (opF tx L c r).2.2.1 ≤ r.2.2.1 + (if c = 32 then 0 else 1) := by
  unfold opF
  by_cases q1 : c = 100
  · rw [if_pos q1, if_neg (by rw [q1]; decide)]; exact num_cnt
  rw [if_neg q1]
  by_cases q2 : c = 110
  · rw [if_pos q2, if_neg (by rw [q2]; decide)]; exact num_cnt
  rw [if_neg q2]
  by_cases q3 : c = 115
  · rw [if_pos q3, if_neg (by rw [q3]; decide)]; exact dir_cnt
  rw [if_neg q3, lit_cnt]
  exact Nat.le_add_right _ _
theorem getD_drop {l : List Int32} {x : Nat} {c : Int32} {cs : List Int32} (h : l.drop x = c :: cs) : l.getD x 0 = c ∧ l.drop (x + 1) = cs := by
  have h1 : (l.drop x)[0]? = l[x]? := by rw [List.getElem?_drop, Nat.add_zero]
  rw [h] at h1
  refine ⟨?_, ?_⟩
  · rw [List.getD_eq_getElem?_getD, ← h1]
    rfl
  · rw [← List.drop_drop, h]
    rfl
theorem c_form {M0 : Mem} {tx : Nat → Nat} {L c t : Nat} (hlen : mTl.getD t 0 = (mTx.getD t []).length) (h8 : (mTx.getD t []).length ≤ 8) : ∀ (cs : List Int32) (x N : Nat) (r : Rdr) (M : Mem), (mTx.getD t []).drop x = cs → x + cs.length = (mTx.getD t []).length → cs.length < N → r.1 = true → r.2.2.1 + nnum cs ≤ 4 → Cst M0 M tx L c r → wp (f_X2_readForm_L2 t N (nI x) M (fun M16 => some (1, M16))) fun v M1 => v = nI (frmS tx L cs r).1.toNat ∧ Cst M0 M1 tx L c (frmS tx L cs r) := by
  intro cs
  induction cs with
  | nil =>
    intro x N r M h1 h2 h3 hr h4 h
    obtain ⟨n, rfl⟩ : ∃ n, N = n + 1 := ⟨N - 1, by omega⟩
    rw [List.length_nil] at h2
    have e1 : Int32.ofNat (mTl.getD t 0) = nI x := by rw [hlen, ← h2]; rfl
    rw [f_X2_readForm_L2.eq_2, e1, if_pos (by rw [nI_leE (by omega) (by omega)]; omega), wp_some]
    refine ⟨?_, h⟩
    show (1 : Int32) = nI (r.1.toNat)
    rw [hr]; rfl
  | cons k cs ih =>
    intro x N r M h1 h2 h3 hr h4 h
    obtain ⟨n, rfl⟩ : ∃ n, N = n + 1 := ⟨N - 1, by omega⟩
    rw [List.length_cons] at h2 h3
    rw [nnum_c] at h4
    obtain ⟨g1, g2⟩ := getD_drop h1
    have e1 : Int32.ofNat (mTl.getD t 0) = nI (x + (cs.length + 1)) := by rw [hlen, ← h2]; rfl
    have h' := h
    obtain ⟨ht, ⟨c4, c5, c6⟩, ⟨c7, c8, c9⟩, c10, c11⟩ := h'
    have ep := c_peek ht c4 c7
    have e32 := pk_at (tx := tx) (L := L) (p := r.2.1) (c := 32) (fun i hi => (ht.2.2 i hi).2) (by decide)
    rw [f_X2_readForm_L2.eq_2, e1, if_neg (by rw [nI_leE (by omega) (by omega)]; omega), nI_mix (by rw [hlen]; omega) (by omega), nI_nat (by omega), g1, frm_c]
    simp only [mlet_eq, lit_0, lit_1, lit_2, lit_3, lit_4, lit_5, lit_6, lit_7, lit_8, lit_9, lit_10, lit_11, lit_12, lit_13, lit_14, lit_15, lit_16, lit_20, lit_23, lit_24, lit_31, lit_32, lit_39, lit_43, lit_45, lit_47, lit_48, lit_56, lit_57, lit_59, lit_60, lit_62, lit_63, lit_89, lit_92, lit_96, lit_97, lit_99, lit_100, lit_102, lit_103, lit_104, lit_110, lit_111, lit_115, lit_117, lit_194, lit_200, lit_644, lit_736, lit_999, lit_1000, lit_9999, lit_10000, lit_1000000000, nI_add]
    by_cases q : k = nI 63
    · have q' : k = 63 := q
      rw [if_pos q, if_pos q, ep, mbp_eq]
      rw [if_neg (show ¬ k = 32 by rw [q']; decide)] at h4
      by_cases q2 : isAt tx L r.2.1 (nI 32) = true
      · have e2 : pk tx L r.2.1 = nI 32 := by rw [e32]; exact q2
        rw [if_pos q2, if_pos e2]
        exact ih (x + 1) n r M g2 (by omega) (by omega) hr (by omega) h
      · have e2 : ¬ pk tx L r.2.1 = nI 32 := by rw [e32]; exact q2
        rw [if_neg q2, if_neg e2]
        obtain ⟨⟨⟩, M1, e5, h5⟩ := c_addNumber (v := 1) h (by omega)
        rw [e5, mbnd_eq, wp_some]
        refine ⟨?_, h5⟩
        show nI 1 = nI (r.1.toNat)
        rw [hr]; rfl
    · have q' : ¬ k = 63 := q
      rw [if_neg q, if_neg q]
      obtain ⟨v, M1, e5, rfl, h5⟩ := c_part (x := k) h hr (fun hk => by rw [if_neg hk] at h4; omega)
      have hc := opF_cnt (tx := tx) (L := L) (c := k) (r := r)
      rw [e5, mbnd_eq]
      by_cases q3 : (opF tx L k r).1 = true
      · rw [if_pos q3, q3, if_neg (by decide)]
        exact ih (x + 1) n _ M1 g2 (by omega) (by omega) q3 (by omega) h5
      · rw [if_neg q3]
        have q4 : (opF tx L k r).1 = false := by simpa using q3
        rw [q4, if_pos (by decide), wp_some]
        exact ⟨rfl, h5⟩
theorem c_match {M : Mem} {tx : Nat → Nat} {L p t : Nat} (hlen : mTl.getD t 0 = (mTx.getD t []).length) (h8 : (mTx.getD t []).length ≤ 8) (ht : Txt M tx L) (hp : M 12 26 2 = nI p) (kk : Int32 → Option Int32) : ∀ (cs : List Int32) (x N : Nat), (mTx.getD t []).drop x = cs → x + cs.length = (mTx.getD t []).length → cs.length < N → p + x ≤ L → f_X2_matchingLetters_L2 t M N (nI x) kk = kk (nI (x + ml tx L cs (p + x))) := by
  obtain ⟨t1, t2, t3⟩ := ht
  intro cs
  induction cs with
  | nil =>
    intro x N h1 h2 h3 h4
    obtain ⟨n, rfl⟩ : ∃ n, N = n + 1 := ⟨N - 1, by omega⟩
    rw [List.length_nil] at h2
    have e1 : Int32.ofNat (mTl.getD t 0) = nI x := by rw [hlen, ← h2]; rfl
    rw [f_X2_matchingLetters_L2.eq_2, e1, if_pos (by rw [nI_leE (by omega) (by omega)]; omega), ml_n]
    rfl
  | cons k cs ih =>
    intro x N h1 h2 h3 h4
    obtain ⟨n, rfl⟩ : ∃ n, N = n + 1 := ⟨N - 1, by omega⟩
    rw [List.length_cons] at h2 h3
    obtain ⟨g1, g2⟩ := getD_drop h1
    have e1 : Int32.ofNat (mTl.getD t 0) = nI (x + (cs.length + 1)) := by rw [hlen, ← h2]; rfl
    rw [f_X2_matchingLetters_L2.eq_2, e1, if_neg (by rw [nI_leE (by omega) (by omega)]; omega), t2, hp, nI_add, ml_c]
    by_cases q : p + x < L
    · have e2 := (t3 (p + x) q).1
      rw [if_neg (by rw [nI_leE (by omega) (by omega)]; omega), nI_mix (by omega) (by omega), nI_mix (by rw [hlen]; omega) (by omega), nI_nat (by omega), nI_nat (by omega), g1, e2]
      by_cases q2 : nI (tx (p + x)) = k
      · have q3 : isAt tx L (p + x) k = true := by unfold isAt; rw [decide_eq_true q, decide_eq_true q2]; rfl
        have h6 := ih (x + 1) n g2 (by omega) (by omega) (by omega)
        rw [if_pos q2, if_pos q3, mlet_eq, lit_1, nI_add, h6]
        rw [show x + 1 + ml tx L cs (p + (x + 1)) = x + (1 + ml tx L cs (p + x + 1)) by rw [Nat.add_assoc p x 1]; omega]
      · have q3 : ¬ isAt tx L (p + x) k = true := fun h => q2 (isAt_lt h).2
        rw [if_neg q2, if_neg q3]
        rfl
    · have q3 : ¬ isAt tx L (p + x) k = true := fun h => q (isAt_lt h).1
      rw [if_pos (by rw [nI_leE (by omega) (by omega)]; omega), if_neg q3]
      rfl
def hdL : List Int32 := [104, 115, 115, 103, 98, 111, 99, 103, 116, 104, 119]
def sdL : List Int32 := [111, 101, 104, 105, 97, 112, 108, 117, 117, 117, 97]
theorem ltr_all : ∀ k : Fin 11, ltr k.val = hdL.getD k.val 0 :: sdL.getD k.val 0 :: (ltr k.val).drop 2 ∧ 3 ≤ (ltr k.val).length ∧ (ltr k.val).length ≤ 8 ∧ mTl.getD (mLt.getD k.val 0) 0 = (mTx.getD (mLt.getD k.val 0) []).length ∧ mTl.getD (mFm.getD k.val 0) 0 = (mTx.getD (mFm.getD k.val 0) []).length ∧ (frm k.val).length ≤ 8 ∧ nnum (frm k.val) ≤ 4 ∧ (k.val = 9 ∨ 4 ≤ (ltr k.val).length) := by decide +kernel
theorem hd_all : ∀ k w : Fin 11, k ≠ w → hdL.getD k.val 0 = hdL.getD w.val 0 → (w = 0 ∧ k = 9) ∨ (w = 9 ∧ k = 0) ∨ (w = 1 ∧ k = 2) ∨ (w = 2 ∧ k = 1) ∨ (w = 3 ∧ k = 7) ∨ (w = 7 ∧ k = 3) := by decide +kernel
theorem isAt_inj {tx : Nat → Nat} {L p : Nat} {a b : Int32} (h1 : isAt tx L p a = true) (h2 : isAt tx L p b = true) : a = b := (isAt_lt h1).2.symm.trans (isAt_lt h2).2
theorem ml_two {tx : Nat → Nat} {L p k : Nat} (hk : k < 11) : ml tx L (ltr k) p = if isAt tx L p (hdL.getD k 0) = true then 1 + (if isAt tx L (p + 1) (sdL.getD k 0) = true then 1 + ml tx L ((ltr k).drop 2) (p + 1 + 1) else 0) else 0 := by
  have h := (ltr_all ⟨k, hk⟩).1
  simp only [] at h
  rw [h, ml_c, ml_c]
  rfl
def rwS (tx : Nat → Nat) (L p : Nat) : Nat → Nat → Nat → Option Nat × Nat
  | 0, _, b => (none, b)
  | d + 1, k, b => if ml tx L (ltr k) p = (ltr k).length then (some k, ml tx L (ltr k) p) else rwS tx L p d (k + 1) (if b < ml tx L (ltr k) p then ml tx L (ltr k) p else b)
theorem rwS_s {tx : Nat → Nat} {L p d k b : Nat} : rwS tx L p (d + 1) k b = if ml tx L (ltr k) p = (ltr k).length then (some k, ml tx L (ltr k) p) else rwS tx L p d (k + 1) (if b < ml tx L (ltr k) p then ml tx L (ltr k) p else b) := Eq.trans rfl rfl
theorem rwS_none {tx : Nat → Nat} {L p : Nat} (h : ∀ k, k < 11 → ml tx L (ltr k) p = 0) : ∀ d k, k + d = 11 → rwS tx L p d k 0 = (none, 0) := by
  intro d
  induction d with
  | zero => intro k _; rfl
  | succ d ih =>
    intro k hk
    have h1 := h k (by omega)
    have h2 := (ltr_all ⟨k, by omega⟩).2.1
    simp only [] at h2
    rw [rwS_s, h1, if_neg (by omega), if_neg (Nat.lt_irrefl 0)]
    exact ih (k + 1) (by omega)
theorem rwS_some {tx : Nat → Nat} {L p w : Nat} (hw : w < 11) (h : ∀ k, k < 11 → k ≠ w → ml tx L (ltr k) p ≤ 1) (hq : 1 ≤ ml tx L (ltr w) p) : ∀ d k b, k + d = 11 → (k ≤ w → b ≤ 1) → (w < k → b = ml tx L (ltr w) p ∧ ml tx L (ltr w) p ≠ (ltr w).length) → rwS tx L p d k b = if ml tx L (ltr w) p = (ltr w).length then (some w, ml tx L (ltr w) p) else (none, ml tx L (ltr w) p) := by
  intro d
  induction d with
  | zero =>
    intro k b h1 h2 h3
    obtain ⟨h4, h5⟩ := h3 (by omega)
    rw [if_neg h5, h4]
    rfl
  | succ d ih =>
    intro k b h1 h2 h3
    have h6 := (ltr_all ⟨k, by omega⟩).2.1
    simp only [] at h6
    rw [rwS_s]
    by_cases q : k = w
    · subst q
      by_cases r : ml tx L (ltr k) p = (ltr k).length
      · rw [if_pos r, if_pos r]
      · have h7 := h2 (Nat.le_refl k)
        rw [if_neg r]
        rw [ih (k + 1) _ (by omega) (fun hh => by omega) (fun _ => ⟨by split <;> omega, r⟩)]
    · have h7 := h k (by omega) q
      rw [if_neg (by omega)]
      refine ih (k + 1) _ (by omega) (fun hh => ?_) (fun hh => ?_)
      · have h8 := h2 (by omega)
        split <;> omega
      · obtain ⟨h8, h9⟩ := h3 (by omega)
        exact ⟨by split <;> omega, h9⟩
theorem sel_of {tx : Nat → Nat} {L p w : Nat} (hw : w < 11) (hA : isAt tx L p (hdL.getD w 0) = true) (hB : ∀ k, k < 11 → k ≠ w → hdL.getD k 0 = hdL.getD w 0 → ¬ isAt tx L (p + 1) (sdL.getD k 0) = true) : rwS tx L p 11 0 0 = if ml tx L (ltr w) p = (ltr w).length then (some w, ml tx L (ltr w) p) else (none, ml tx L (ltr w) p) := by
  refine rwS_some hw (fun k hk hkw => ?_) ?_ 11 0 0 rfl (fun _ => Nat.zero_le _) (fun h => absurd h (Nat.not_lt_zero _))
  · rw [ml_two hk]
    by_cases q : isAt tx L p (hdL.getD k 0) = true
    · rw [if_pos q, if_neg (hB k hk hkw (isAt_inj q hA))]
      exact Nat.le_refl _
    · rw [if_neg q]
      exact Nat.zero_le _
  · rw [ml_two hw, if_pos hA]
    omega
theorem rwS_sel {tx : Nat → Nat} {L p : Nat} : (∀ w, wsel tx L p = some w → w < 11 ∧ rwS tx L p 11 0 0 = if ml tx L (ltr w) p = (ltr w).length then (some w, ml tx L (ltr w) p) else (none, ml tx L (ltr w) p)) ∧ (wsel tx L p = none → rwS tx L p 11 0 0 = (none, 0)) := by
  have hb : ∀ w k : Nat, ∀ hw : w < 11, ∀ hk : k < 11, k ≠ w → hdL.getD k 0 = hdL.getD w 0 → (w = 0 ∧ k = 9) ∨ (w = 9 ∧ k = 0) ∨ (w = 1 ∧ k = 2) ∨ (w = 2 ∧ k = 1) ∨ (w = 3 ∧ k = 7) ∨ (w = 7 ∧ k = 3) := by
    intro w k hw hk h1 h2
    have := hd_all ⟨k, hk⟩ ⟨w, hw⟩ (fun e => h1 (congrArg Fin.val e)) h2
    rcases this with ⟨a, b⟩ | ⟨a, b⟩ | ⟨a, b⟩ | ⟨a, b⟩ | ⟨a, b⟩ | ⟨a, b⟩
    · exact Or.inl ⟨congrArg Fin.val a, congrArg Fin.val b⟩
    · exact Or.inr (Or.inl ⟨congrArg Fin.val a, congrArg Fin.val b⟩)
    · exact Or.inr (Or.inr (Or.inl ⟨congrArg Fin.val a, congrArg Fin.val b⟩))
    · exact Or.inr (Or.inr (Or.inr (Or.inl ⟨congrArg Fin.val a, congrArg Fin.val b⟩)))
    · exact Or.inr (Or.inr (Or.inr (Or.inr (Or.inl ⟨congrArg Fin.val a, congrArg Fin.val b⟩))))
    · exact Or.inr (Or.inr (Or.inr (Or.inr (Or.inr ⟨congrArg Fin.val a, congrArg Fin.val b⟩))))
  have two : ∀ w k0 : Nat, ∀ hw : w < 11, isAt tx L p (hdL.getD w 0) = true → (∀ k, k < 11 → k ≠ w → hdL.getD k 0 = hdL.getD w 0 → k = k0) → ¬ isAt tx L (p + 1) (sdL.getD k0 0) = true → w < 11 ∧ rwS tx L p 11 0 0 = if ml tx L (ltr w) p = (ltr w).length then (some w, ml tx L (ltr w) p) else (none, ml tx L (ltr w) p) := by
    intro w k0 hw h1 h2 h3
    exact ⟨hw, sel_of hw h1 (fun k hk hkw he => by rw [h2 k hk hkw he]; exact h3)⟩
  have one' : ∀ w : Nat, ∀ hw : w < 11, isAt tx L p (hdL.getD w 0) = true → (w = 4 ∨ w = 5 ∨ w = 6 ∨ w = 8 ∨ w = 10) → w < 11 ∧ rwS tx L p 11 0 0 = if ml tx L (ltr w) p = (ltr w).length then (some w, ml tx L (ltr w) p) else (none, ml tx L (ltr w) p) := by
    intro w hw h1 h2
    exact ⟨hw, sel_of hw h1 (fun k hk hkw he => by have := hb w k hw hk hkw he; omega)⟩
  have ne : ∀ {a b : Int32} {q : Nat}, a ≠ b → isAt tx L q a = true → ¬ isAt tx L q b = true := fun hab h1 h2 => hab (isAt_inj h1 h2)
  unfold wsel
  by_cases q1 : isAt tx L p 104 = true
  · rw [if_pos q1]
    by_cases q2 : isAt tx L (p + 1) 117 = true
    · rw [if_pos q2]
      refine ⟨fun w e => ?_, fun e => (by cases e)⟩
      cases e
      exact two 9 0 (by decide) q1 (fun k hk h1 h2 => by have := hb 9 k (by decide) hk h1 h2; omega) (ne (show (117 : Int32) ≠ 111 by decide) q2)
    · rw [if_neg q2]
      refine ⟨fun w e => ?_, fun e => (by cases e)⟩
      cases e
      exact two 0 9 (by decide) q1 (fun k hk h1 h2 => by have := hb 0 k (by decide) hk h1 h2; omega) q2
  rw [if_neg q1]
  by_cases q3 : isAt tx L p 115 = true
  · rw [if_pos q3]
    by_cases q2 : isAt tx L (p + 1) 104 = true
    · rw [if_pos q2]
      refine ⟨fun w e => ?_, fun e => (by cases e)⟩
      cases e
      exact two 2 1 (by decide) q3 (fun k hk h1 h2 => by have := hb 2 k (by decide) hk h1 h2; omega) (ne (show (104 : Int32) ≠ 101 by decide) q2)
    · rw [if_neg q2]
      refine ⟨fun w e => ?_, fun e => (by cases e)⟩
      cases e
      exact two 1 2 (by decide) q3 (fun k hk h1 h2 => by have := hb 1 k (by decide) hk h1 h2; omega) q2
  rw [if_neg q3]
  by_cases q4 : isAt tx L p 103 = true
  · rw [if_pos q4]
    by_cases q2 : isAt tx L (p + 1) 117 = true
    · rw [if_pos q2]
      refine ⟨fun w e => ?_, fun e => (by cases e)⟩
      cases e
      exact two 7 3 (by decide) q4 (fun k hk h1 h2 => by have := hb 7 k (by decide) hk h1 h2; omega) (ne (show (117 : Int32) ≠ 105 by decide) q2)
    · rw [if_neg q2]
      refine ⟨fun w e => ?_, fun e => (by cases e)⟩
      cases e
      exact two 3 7 (by decide) q4 (fun k hk h1 h2 => by have := hb 3 k (by decide) hk h1 h2; omega) q2
  rw [if_neg q4]
  by_cases q5 : isAt tx L p 98 = true
  · rw [if_pos q5]
    refine ⟨fun w e => ?_, fun e => (by cases e)⟩
    cases e
    exact one' 4 (by decide) q5 (by decide)
  rw [if_neg q5]
  by_cases q6 : isAt tx L p 111 = true
  · rw [if_pos q6]
    refine ⟨fun w e => ?_, fun e => (by cases e)⟩
    cases e
    exact one' 5 (by decide) q6 (by decide)
  rw [if_neg q6]
  by_cases q7 : isAt tx L p 99 = true
  · rw [if_pos q7]
    refine ⟨fun w e => ?_, fun e => (by cases e)⟩
    cases e
    exact one' 6 (by decide) q7 (by decide)
  rw [if_neg q7]
  by_cases q8 : isAt tx L p 116 = true
  · rw [if_pos q8]
    refine ⟨fun w e => ?_, fun e => (by cases e)⟩
    cases e
    exact one' 8 (by decide) q8 (by decide)
  rw [if_neg q8]
  by_cases q9 : isAt tx L p 119 = true
  · rw [if_pos q9]
    refine ⟨fun w e => ?_, fun e => (by cases e)⟩
    cases e
    exact one' 10 (by decide) q9 (by decide)
  rw [if_neg q9]
  refine ⟨fun w e => (by cases e), fun _ => rwS_none (fun k hk => ?_) 11 0 rfl⟩
  rw [ml_two hk, if_neg]
  rcases (show k = 0 ∨ k = 1 ∨ k = 2 ∨ k = 3 ∨ k = 4 ∨ k = 5 ∨ k = 6 ∨ k = 7 ∨ k = 8 ∨ k = 9 ∨ k = 10 by omega) with rfl | rfl | rfl | rfl | rfl | rfl | rfl | rfl | rfl | rfl | rfl
  · exact q1
  · exact q3
  · exact q3
  · exact q4
  · exact q5
  · exact q6
  · exact q7
  · exact q4
  · exact q8
  · exact q1
  · exact q9
/-- the class's words -/
theorem c_words {M : Mem} {tx : Nat → Nat} {L p : Nat} (ht : Txt M tx L) (hp : M 12 26 2 = nI p) (hl : p ≤ L) (kk : Int32 → Option (Option Nat × Mem)) : ∀ d N k b, k + d = 11 → d < N → b ≤ 8 → (∀ w q, rwS tx L p d k b = (some w, q) → f_X2_readWord_L12 M N (nI b) (nI k) kk = some (some w, mup M 12 26 2 (nI (p + q)))) ∧ (∀ q, rwS tx L p d k b = (none, q) → f_X2_readWord_L12 M N (nI b) (nI k) kk = kk (nI q)) := by
  intro d
  induction d with
  | zero =>
    intro N k b h1 h2 hb
    obtain ⟨n, rfl⟩ : ∃ n, N = n + 1 := ⟨N - 1, by omega⟩
    obtain rfl : k = 11 := by omega
    rw [f_X2_readWord_L12.eq_2, if_pos (show (11 : Int32) ≤ nI 11 by decide)]
    refine ⟨fun w q e => (by cases e), fun q e => ?_⟩
    cases e
    rfl
  | succ d ih =>
    intro N k b h1 h2 hb
    obtain ⟨n, rfl⟩ : ∃ n, N = n + 1 := ⟨N - 1, by omega⟩
    obtain ⟨a1, a2, a3, a4, a5, a6, a7, a8⟩ := ltr_all ⟨k, by omega⟩
    simp only [] at a1 a2 a3 a4 a5 a6 a7 a8
    have hml := ml_le (tx := tx) (L := L) (ltr k) p
    have em : f_X2_matchingLetters (mLt.getD k 0) M = some (nI (ml tx L (ltr k) p)) := by
      unfold f_X2_matchingLetters
      have := c_match (t := mLt.getD k 0) a4 a3 ht hp (fun x6 => some x6) (ltr k) 0 1000 rfl (by rw [Nat.zero_add]; rfl) (by omega) (by omega)
      rw [Nat.zero_add, Nat.add_zero] at this
      exact this
    have e0 : Int32.ofNat (mTl.getD (mLt.getD k 0) 0) = nI (ltr k).length := by rw [a4]; rfl
    have e1 := ht.1
    rw [f_X2_readWord_L12.eq_2, lit_11, if_neg (show ¬ nI 11 ≤ nI k by rw [nI_leE (by omega) (by omega)]; omega), nI_mix (by omega) (by omega), nI_nat (by omega), em, mbp_eq, e0, rwS_s]
    by_cases q : ml tx L (ltr k) p = (ltr k).length
    · rw [if_pos q, if_pos (by rw [q]), hp, nI_add, mlet_eq]
      refine ⟨fun w q' e => ?_, fun q' e => (by cases e)⟩
      cases e
      rfl
    · have q9 : ¬ nI (ml tx L (ltr k) p) = nI (ltr k).length := by rw [nI_eqE (by omega) (by omega)]; exact q
      rw [if_neg q, if_neg q9]
      have e2 : (if nI b < nI (ml tx L (ltr k) p) then nI (ml tx L (ltr k) p) else nI b) = nI (if b < ml tx L (ltr k) p then ml tx L (ltr k) p else b) := by
        by_cases r : b < ml tx L (ltr k) p
        · rw [if_pos r, if_pos (by rw [nI_ltE (by omega) (by omega)]; exact r)]
        · rw [if_neg r, if_neg (by rw [nI_ltE (by omega) (by omega)]; exact r)]
      rw [e2, mlet_eq, mlet_eq, lit_1, nI_add]
      have b8 : (if b < ml tx L (ltr k) p then ml tx L (ltr k) p else b) ≤ 8 := by split <;> omega
      exact ih n (k + 1) _ (by omega) (by omega) b8
theorem lit_ge {tx : Nat → Nat} {L : Nat} {ls : List Int32} {r : Rdr} : r.2.1 ≤ (lit tx L ls r).2.1 := by
  unfold lit
  split
  · exact Nat.le_add_right _ _
  · exact Nat.le_refl _
theorem num_ge {tx : Nat → Nat} {L m : Nat} {r : Rdr} : r.2.1 ≤ (num tx L m r).2.1 := by
  unfold num
  split
  · split
    · exact Nat.le_refl _
    · exact Nat.le_add_right _ _
  · exact Nat.le_refl _
theorem dir_ge {tx : Nat → Nat} {L : Nat} {r : Rdr} : r.2.1 ≤ (dir tx L r).2.1 := by
  unfold dir
  split
  · split
    · exact Nat.le_add_right _ _
    · split
      · exact Nat.le_add_right _ _
      · exact Nat.le_refl _
  · exact Nat.le_refl _
theorem opF_ge {tx : Nat → Nat} {L : Nat} {c : Int32} {r : Rdr} : r.2.1 ≤ (opF tx L c r).2.1 := by
  unfold opF
  split
  · exact num_ge
  split
  · exact num_ge
  split
  · exact dir_ge
  · exact lit_ge
theorem frmS_ge {tx : Nat → Nat} {L : Nat} : ∀ (cs : List Int32) (r : Rdr), r.2.1 ≤ (frmS tx L cs r).2.1
  | [], r => Nat.le_refl _
  | c :: cs, r => by
    rw [frm_c]
    split
    · split
      · exact frmS_ge cs r
      · exact Nat.le_refl _
    · split
      · exact Nat.le_trans opF_ge (frmS_ge cs _)
      · exact opF_ge
theorem lit_ok {tx : Nat → Nat} {L : Nat} {ls : List Int32} {r : Rdr} (hr : r.1 = true) (h : (lit tx L ls r).1 = true) : ml tx L ls r.2.1 = ls.length ∧ (lit tx L ls r) = (true, r.2.1 + ls.length, r.2.2) := by
  unfold lit at h ⊢
  rw [if_pos hr] at h ⊢
  have h1 : ml tx L ls r.2.1 = ls.length := by simpa using h
  rw [h1]
  exact ⟨rfl, by rw [decide_eq_true rfl]⟩
def z0 : Nat → Nat := fun _ => 0
theorem cmd_some {tx : Nat → Nat} {L p w : Nat} (h : wsel tx L p = some w) : cmdS tx L p z0 = if (lit tx L (ltr w) (r0 p z0)).1 = true then frmS tx L (frm w) (lit tx L (ltr w) (r0 p z0)) else lit tx L (ltr w) (r0 p z0) := by
  unfold cmdS
  rw [h]
theorem cmd_none {tx : Nat → Nat} {L p : Nat} (h : wsel tx L p = none) : cmdS tx L p z0 = (false, p, 0, z0) := by
  unfold cmdS
  rw [h]
theorem cmd_ge {tx : Nat → Nat} {L p : Nat} (h : (cmdS tx L p z0).1 = true) : p + 4 ≤ (cmdS tx L p z0).2.1 := by
  cases hw : wsel tx L p with
  | none => rw [cmd_none hw] at h; cases h
  | some w =>
    have hw11 := (rwS_sel.1 w hw).1
    obtain ⟨a1, a2, a3, a4, a5, a6, a7, a8⟩ := ltr_all ⟨w, hw11⟩
    simp only [] at a1 a2 a3 a4 a5 a6 a7 a8
    rw [cmd_some hw] at h ⊢
    by_cases q : (lit tx L (ltr w) (r0 p z0)).1 = true
    · rw [if_pos q] at h ⊢
      obtain ⟨b1, b2⟩ := lit_ok rfl q
      rw [b2] at h ⊢
      have g := frmS_ge (tx := tx) (L := L) (frm w) (true, (r0 p z0).2.1 + (ltr w).length, (r0 p z0).2.2)
      have g0 : (r0 p z0).2.1 = p := rfl
      rw [g0] at g h ⊢
      rcases a8 with rfl | a8
      · have e9 : frm 9 = [32, 100, 32, 100] := rfl
        have l9 : (ltr 9).length = 3 := rfl
        rw [e9, l9, frm_c, if_neg (by decide)] at h ⊢
        by_cases r : (opF tx L 32 (true, p + 3, (r0 p z0).2.2)).1 = true
        · rw [if_pos r] at h ⊢
          have g2 := frmS_ge (tx := tx) (L := L) [100, 32, 100] (opF tx L 32 (true, p + 3, (r0 p z0).2.2))
          have g3 : opF tx L 32 (true, p + 3, (r0 p z0).2.2) = lit tx L [32] (true, p + 3, (r0 p z0).2.2) := by
            unfold opF
            rw [if_neg (by decide), if_neg (by decide), if_neg (by decide)]
          rw [g3] at g2 r ⊢
          obtain ⟨-, b3⟩ := lit_ok rfl r
          rw [b3] at g2 ⊢
          have : p + 3 + 1 ≤ (frmS tx L [100, 32, 100] (true, p + 3 + 1, (r0 p z0).2.2)).2.1 := g2
          exact this
        · rw [if_neg r] at h
          exact absurd h r
      · have : p + (ltr w).length ≤ (frmS tx L (frm w) (true, p + (ltr w).length, (r0 p z0).2.2)).2.1 := g
        omega
    · rw [if_neg q] at h
      exact absurd h q
/-- what the class has of command c -/
def RecC (M : Mem) (tx : Nat → Nat) (L p c : Nat) : Prop := ∃ w, wsel tx L p = some w ∧ w < 11 ∧ M 12 28 c = nI w ∧ ∀ j, j < (cmdS tx L p z0).2.2.1 → M 12 (30 + c) j = nI ((cmdS tx L p z0).2.2.2 j)
theorem c_readCommand {M : Mem} {tx : Nat → Nat} {L p c : Nat} (ht : Txt M tx L) (hp : M 12 26 2 = nI p) (h3 : M 12 26 3 = nI c) (hl : p ≤ L) (hc : c < 15) : wp (f_X2_readCommand M) fun v M1 => (v = nI (cmdS tx L p z0).1.toNat ∧ Txt M1 tx L ∧ M1 12 26 2 = nI (cmdS tx L p z0).2.1 ∧ (cmdS tx L p z0).2.1 ≤ L) ∧ ((cmdS tx L p z0).1 = true → M1 12 26 3 = nI (c + 1) ∧ RecC M1 tx L p c) ∧ ∀ a b k, ¬ (a = 12 ∧ (b = 26 ∨ b = 28 ∧ k = c ∨ b = 30 + c)) → M1 a b k = M a b k := by
  obtain ⟨s1, s2⟩ := rwS_sel (tx := tx) (L := L) (p := p)
  have hl60 := ht.1
  have ew : f_X2_readWord M = f_X2_readWord_L12 M 1000 (nI 0) (nI 0) (fun x9 => (mlet (mup M 12 26 2 ((M 12 26 2) + x9)) fun M10 => (some (none, M10)))) := rfl
  obtain ⟨w1, w2⟩ := c_words ht hp hl (fun x9 => (mlet (mup M 12 26 2 ((M 12 26 2) + x9)) fun M10 => (some (none, M10)))) 11 1000 0 0 rfl (by decide) (by decide)
  rw [← ew] at w1 w2
  have txt2 : ∀ q, Txt (mup M 12 26 2 (nI q)) tx L := fun q => ⟨hl60, by rw [mup_at, if_neg (by decide)]; exact ht.2.1, fun i hi => by rw [mup_at, if_neg (by omega)]; exact ht.2.2 i hi⟩
  have fail : ∀ q, p + q ≤ L → cmdS tx L p z0 = (false, p + q, 0, z0) → f_X2_readWord M = some (none, mup M 12 26 2 (nI (p + q))) → wp (f_X2_readCommand M) (fun v M1 => (v = nI (cmdS tx L p z0).1.toNat ∧ Txt M1 tx L ∧ M1 12 26 2 = nI (cmdS tx L p z0).2.1 ∧ (cmdS tx L p z0).2.1 ≤ L) ∧ ((cmdS tx L p z0).1 = true → M1 12 26 3 = nI (c + 1) ∧ RecC M1 tx L p c) ∧ ∀ a b k, ¬ (a = 12 ∧ (b = 26 ∨ b = 28 ∧ k = c ∨ b = 30 + c)) → M1 a b k = M a b k) := by
    intro q hq e1 e2
    unfold f_X2_readCommand
    rw [e2, mbnd_eq, e1]
    show wp (some ((0 : Int32), mup M 12 26 2 (nI (p + q)))) _
    rw [wp_some]
    refine ⟨⟨rfl, txt2 _, ?_, hq⟩, fun h => (by cases h), fun a b k hab => ?_⟩
    · rw [mup_at, if_pos (by decide)]
    · rw [mup_at, if_neg (by omega)]
  cases hw : wsel tx L p with
  | none =>
    have e := w2 0 (s2 hw)
    rw [hp, nI_add, mlet_eq] at e
    exact fail 0 (by omega) (by rw [cmd_none hw]; rfl) e
  | some w =>
    obtain ⟨w11, e⟩ := s1 w hw
    have hml := ml_L (tx := tx) (L := L) (ltr w) p hl
    obtain ⟨a1, a2, a3, a4, a5, a6, a7, a8⟩ := ltr_all ⟨w, w11⟩
    simp only [] at a1 a2 a3 a4 a5 a6 a7 a8
    by_cases q : ml tx L (ltr w) p = (ltr w).length
    · rw [if_pos q] at e
      have e1 := w1 _ _ e
      unfold f_X2_readCommand
      rw [e1, mbnd_eq]
      have x3 : (mup M 12 26 2 (nI (p + ml tx L (ltr w) p))) 12 26 3 = nI c := by rw [mup_at, if_neg (by decide)]; exact h3
      have hL : lit tx L (ltr w) (r0 p z0) = (true, p + ml tx L (ltr w) p, 0, z0) := by
        unfold lit
        rw [if_pos (show (r0 p z0).1 = true from rfl)]
        show (decide (ml tx L (ltr w) p = (ltr w).length), p + ml tx L (ltr w) p, 0, z0) = _
        rw [decide_eq_true q]
      have hcm : cmdS tx L p z0 = frmS tx L (frm w) (true, p + ml tx L (ltr w) p, 0, z0) := by rw [cmd_some hw, hL, if_pos rfl]
      have hC : Cst (mup M 12 28 c (nI w)) (mup (mup (mup M 12 26 2 (nI (p + ml tx L (ltr w) p))) 12 28 c (nI w)) 12 26 6 (nI 0)) tx L c (true, p + ml tx L (ltr w) p, 0, z0) := by
        refine ⟨⟨hl60, ?_, fun i hi => ?_⟩, ⟨?_, ?_, ?_⟩, ⟨by show p + _ ≤ L; omega, hc, Nat.zero_le _⟩, fun j hj => absurd hj (Nat.not_lt_zero _), fun a b hab => ?_⟩
        · rw [mup_at, if_neg (by decide), mup_at, if_neg (by omega), mup_at, if_neg (by decide)]; exact ht.2.1
        · rw [mup_at, if_neg (by omega), mup_at, if_neg (by omega), mup_at, if_neg (by omega)]; exact ht.2.2 i hi
        · rw [mup_at, if_neg (by decide), mup_at, if_neg (by omega), mup_at, if_pos (by decide)]
        · rw [mup_at, if_neg (by decide), mup_at, if_neg (by omega), mup_at, if_neg (by decide)]; exact h3
        · rw [mup_at, if_pos (by decide)]
        · rw [pm_ne (by omega)]
          funext k
          show (if a = 12 ∧ b = 28 ∧ k = c then nI w else mup M 12 26 2 (nI (p + ml tx L (ltr w) p)) a b k) = (if a = 12 ∧ b = 28 ∧ k = c then nI w else M a b k)
          by_cases r : a = 12 ∧ b = 28 ∧ k = c
          · rw [if_pos r, if_pos r]
          · rw [if_neg r, if_neg r, mup_at, if_neg (by omega)]
      have hF := c_form (t := mFm.getD w 0) (c := c) a5 a6 (frm w) 0 1000 _ _ rfl (by rw [Nat.zero_add]; rfl) (by omega) rfl (by show 0 + _ ≤ 4; omega) hC
      obtain ⟨v, M1, e5, rfl, h5⟩ := hF
      rw [← hcm] at e5 h5
      have e6 : f_X2_readForm (mFm.getD w 0) (mup (mup (mup M 12 26 2 (nI (p + ml tx L (ltr w) p))) 12 28 c (nI w)) 12 26 6 (nI 0)) = some (nI (cmdS tx L p z0).1.toNat, M1) := e5
      have e7 : Int32.ofNat w = nI w := rfl
      obtain ⟨t1, ⟨t2, t3, t4⟩, ⟨t5, t6, t7⟩, t8, t9⟩ := h5
      show wp (mix ((mup M 12 26 2 (nI (p + ml tx L (ltr w) p))) 12 26 3) 15 _) _
      rw [x3, e7]
      simp (disch := omega) only [mix_ite, nI_nat, wp_ite, mlet_eq, lit_0, lit_1, lit_2, lit_3, lit_4, lit_5, lit_6, lit_7, lit_8, lit_9, lit_10, lit_11, lit_12, lit_13, lit_14, lit_15, lit_16, lit_20, lit_23, lit_24, lit_31, lit_32, lit_39, lit_43, lit_45, lit_47, lit_48, lit_56, lit_57, lit_59, lit_60, lit_62, lit_63, lit_89, lit_92, lit_96, lit_97, lit_99, lit_100, lit_102, lit_103, lit_104, lit_110, lit_111, lit_115, lit_117, lit_194, lit_200, lit_644, lit_736, lit_999, lit_1000, lit_9999, lit_10000, lit_1000000000]
      rw [if_neg (show ¬ (nI c < nI 0 ∨ 15 ≤ c) by rw [nI_ltE (by omega) (by decide)]; omega), e6, mbnd_eq]
      have fr : ∀ a b k, ¬ (a = 12 ∧ (b = 26 ∨ b = 28 ∧ k = c ∨ b = 30 + c)) → M1 a b k = M a b k := fun a b k hab => by
        rw [t9 a b (by omega), mup_at, if_neg (by omega)]
      cases q2 : (cmdS tx L p z0).1 with
      | false =>
        rw [Bool.toNat_false, if_pos rfl, wp_some]
        exact ⟨⟨rfl, t1, t2, t5⟩, fun h => (by cases h), fr⟩
      | true =>
        rw [Bool.toNat_true, if_neg (by decide), t3, nI_add, wp_some]
        refine ⟨⟨rfl, ⟨hl60, ?_, fun i hi => ?_⟩, ?_, t5⟩, fun _ => ⟨?_, w, hw, w11, ?_, fun j hj => ?_⟩, fun a b k hab => ?_⟩
        · rw [mup_at, if_neg (by decide)]; exact t1.2.1
        · rw [mup_at, if_neg (by omega)]; exact t1.2.2 i hi
        · rw [mup_at, if_neg (by decide)]; exact t2
        · rw [mup_at, if_pos (by decide)]
        · rw [mup_at, if_neg (by omega), t9 12 28 (by omega), mup_at, if_pos (by omega)]
        · rw [mup_at, if_neg (by omega)]; exact t8 j hj
        · rw [mup_at, if_neg (by omega)]; exact fr a b k hab
    · rw [if_neg q] at e
      have e1 := w2 _ e
      rw [hp, nI_add, mlet_eq] at e1
      have hL : lit tx L (ltr w) (r0 p z0) = (false, p + ml tx L (ltr w) p, 0, z0) := by
        unfold lit
        rw [if_pos (show (r0 p z0).1 = true from rfl)]
        show (decide (ml tx L (ltr w) p = (ltr w).length), p + ml tx L (ltr w) p, 0, z0) = _
        rw [decide_eq_false q]
      exact fail _ hml (by rw [cmd_some hw, hL]; exact if_neg (fun h => (by cases h))) e1
/-! the whole text -/
def Pp (tx : Nat → Nat) (L : Nat) : Nat → Nat
  | 0 => 0
  | k + 1 => (cmdS tx L (Pp tx L k) z0).2.1 + 1
theorem Pp_s {tx : Nat → Nat} {L k : Nat} : Pp tx L (k + 1) = (cmdS tx L (Pp tx L k) z0).2.1 + 1 := Eq.trans rfl rfl
/-- well-formed, the error's place, how many commands -/
def prS (tx : Nat → Nat) (L : Nat) : Nat → Nat → Bool × Nat × Nat
  | 0, k => (false, 0, k)
  | f + 1, k => if (cmdS tx L (Pp tx L k) z0).1 = true then (if L ≤ (cmdS tx L (Pp tx L k) z0).2.1 then (true, 0, k + 1) else if isAt tx L (cmdS tx L (Pp tx L k) z0).2.1 59 = true then prS tx L f (k + 1) else (false, (cmdS tx L (Pp tx L k) z0).2.1, k)) else (false, (cmdS tx L (Pp tx L k) z0).2.1, k)
theorem prS_s {tx : Nat → Nat} {L f k : Nat} : prS tx L (f + 1) k = if (cmdS tx L (Pp tx L k) z0).1 = true then (if L ≤ (cmdS tx L (Pp tx L k) z0).2.1 then (true, 0, k + 1) else if isAt tx L (cmdS tx L (Pp tx L k) z0).2.1 59 = true then prS tx L f (k + 1) else (false, (cmdS tx L (Pp tx L k) z0).2.1, k)) else (false, (cmdS tx L (Pp tx L k) z0).2.1, k) := Eq.trans rfl rfl
def RecA (M : Mem) (tx : Nat → Nat) (L n : Nat) : Prop := ∀ i, i < n → (cmdS tx L (Pp tx L i) z0).1 = true ∧ RecC M tx L (Pp tx L i) i
def PFr (M M1 : Mem) : Prop := ∀ a b, ¬ (a = 12 ∧ (b = 26 ∨ b = 28 ∨ 30 ≤ b ∧ b < 45)) → M1 a b = M a b
theorem c_parseL {M0 : Mem} {tx : Nat → Nat} {L : Nat} : ∀ f N k M, f + k = 13 → f < N → 5 * k ≤ Pp tx L k → Pp tx L k ≤ L → Txt M tx L → M 12 26 2 = nI (Pp tx L k) → M 12 26 3 = nI k → RecA M tx L k → PFr M0 M → wp (f_X2_parse_L12 N (nI k) M (fun M13 => some (M13 12 26 2, M13))) fun v M1 => Txt M1 tx L ∧ PFr M0 M1 ∧ ((prS tx L f k).1 = true → v = -nI 1 ∧ M1 12 26 3 = nI (prS tx L f k).2.2 ∧ RecA M1 tx L (prS tx L f k).2.2 ∧ 1 ≤ (prS tx L f k).2.2 ∧ 5 * (prS tx L f k).2.2 ≤ L + 1) ∧ ((prS tx L f k).1 = false → v = nI (prS tx L f k).2.1 ∧ (prS tx L f k).2.1 ≤ L) := by
  intro f
  induction f with
  | zero =>
    intro N k M h1 h2 h3 h4 ht _ _ _ _
    have := ht.1
    omega
  | succ f ih =>
    intro N k M h1 h2 h3 h4 ht hp hk hrec hfr
    obtain ⟨n, rfl⟩ : ∃ n, N = n + 1 := ⟨N - 1, by omega⟩
    have hl60 := ht.1
    obtain ⟨v, M1, e1, ⟨rfl, t1, t2, t3⟩, t4, t5⟩ := c_readCommand ht hp hk h4 (by omega)
    have hge := cmd_ge (tx := tx) (L := L) (p := Pp tx L k)
    have ep := c_peek t1 t2 t3
    have e59 := pk_at (tx := tx) (L := L) (p := (cmdS tx L (Pp tx L k) z0).2.1) (c := 59) (fun i hi => (t1.2.2 i hi).2) (by decide)
    have fr1 : PFr M0 M1 := fun a b hab => by
      rw [← hfr a b hab]
      funext j
      exact t5 a b j (by omega)
    rw [f_X2_parse_L12.eq_2, lit_15, if_neg (by rw [nI_leE (by omega) (by omega)]; omega), e1, mbnd_eq, prS_s]
    cases q : (cmdS tx L (Pp tx L k) z0).1 with
    | false =>
      rw [Bool.toNat_false, if_pos (show nI 0 = 0 from rfl), if_neg (by decide), t2, wp_some]
      exact ⟨t1, fr1, fun h => (by cases h), fun _ => ⟨rfl, t3⟩⟩
    | true =>
      obtain ⟨g1, g2⟩ := t4 q
      have g3 := hge q
      have rec1 : RecA M1 tx L (k + 1) := fun i hi => by
        by_cases r : i = k
        · subst r
          exact ⟨q, g2⟩
        · obtain ⟨r1, w, r2, r3, r4, r5⟩ := hrec i (by omega)
          refine ⟨r1, w, r2, r3, ?_, fun j hj => ?_⟩
          · rw [t5 12 28 i (by omega)]; exact r4
          · rw [t5 12 (30 + i) j (by omega)]; exact r5 j hj
      rw [Bool.toNat_true, if_neg (show ¬ nI 1 = 0 by decide), if_pos rfl, ep, mbp_eq, mbp_eq]
      by_cases q2 : L ≤ (cmdS tx L (Pp tx L k) z0).2.1
      · have e2 : pk tx L (cmdS tx L (Pp tx L k) z0).2.1 = -nI 1 := if_neg (by omega)
        rw [if_pos q2, e2, if_pos (show -nI 1 = -1 from rfl), wp_some]
        refine ⟨t1, fr1, fun _ => ⟨rfl, g1, rec1, by show 1 ≤ k + 1; omega, by show 5 * (k + 1) ≤ L + 1; omega⟩, fun h => (by cases h)⟩
      · have e2 : pk tx L (cmdS tx L (Pp tx L k) z0).2.1 = nI (tx (cmdS tx L (Pp tx L k) z0).2.1) := if_pos (by omega)
        have lt := (t1.2.2 (cmdS tx L (Pp tx L k) z0).2.1 (by omega)).2
        rw [if_neg q2, if_neg (show ¬ pk tx L (cmdS tx L (Pp tx L k) z0).2.1 = -1 by rw [e2]; show ¬ nI _ = -nI 1; rw [nI_eqN (by omega) (by decide) (by decide)]; exact id)]
        by_cases q3 : isAt tx L (cmdS tx L (Pp tx L k) z0).2.1 59 = true
        · have e3 : pk tx L (cmdS tx L (Pp tx L k) z0).2.1 = nI 59 := by rw [e59]; exact q3
          rw [if_pos q3, if_pos (show pk tx L (cmdS tx L (Pp tx L k) z0).2.1 = 59 from e3), mlet_eq, mlet_eq, t2, lit_1, nI_add, nI_add]
          refine ih n (k + 1) _ (by omega) (by omega) (by rw [Pp_s]; omega) (by rw [Pp_s]; omega) ⟨hl60, ?_, fun i hi => ?_⟩ ?_ ?_ (fun i hi => ?_) (fun a b hab => ?_)
          · rw [mup_at, if_neg (by decide)]; exact t1.2.1
          · rw [mup_at, if_neg (by omega)]; exact t1.2.2 i hi
          · rw [mup_at, if_pos (by decide), Pp_s]
          · rw [mup_at, if_neg (by decide)]; exact g1
          · obtain ⟨r1, w, r2, r3, r4, r5⟩ := rec1 i hi
            refine ⟨r1, w, r2, r3, ?_, fun j hj => ?_⟩
            · rw [mup_at, if_neg (by omega)]; exact r4
            · rw [mup_at, if_neg (by omega)]; exact r5 j hj
          · rw [pm_ne (by omega)]
            exact fr1 a b hab
        · have e3 : ¬ pk tx L (cmdS tx L (Pp tx L k) z0).2.1 = nI 59 := by rw [e59]; exact q3
          rw [if_neg q3, if_neg (show ¬ pk tx L (cmdS tx L (Pp tx L k) z0).2.1 = 59 from e3), t2, wp_some]
          exact ⟨t1, fr1, fun h => (by cases h), fun _ => ⟨rfl, t3⟩⟩
theorem c_parse {M : Mem} {tx : Nat → Nat} {L : Nat} (ht : Txt M tx L) : wp (f_X2_parse M) fun v M1 => Txt M1 tx L ∧ PFr M M1 ∧ ((prS tx L 13 0).1 = true → v = -nI 1 ∧ M1 12 26 3 = nI (prS tx L 13 0).2.2 ∧ RecA M1 tx L (prS tx L 13 0).2.2 ∧ 1 ≤ (prS tx L 13 0).2.2 ∧ 5 * (prS tx L 13 0).2.2 ≤ L + 1) ∧ ((prS tx L 13 0).1 = false → v = nI (prS tx L 13 0).2.1 ∧ (prS tx L 13 0).2.1 ≤ L) := by
  obtain ⟨h1, h2, h3⟩ := ht
  unfold f_X2_parse
  generalize hN : (1000 : Nat) = N
  rw [mlet_eq, mlet_eq]
  show wp (f_X2_parse_L12 N (nI 0) _ _) _
  refine c_parseL (M0 := M) 13 N 0 _ rfl (by omega) (Nat.zero_le _) (Nat.zero_le _) ⟨h1, ?_, fun i hi => ?_⟩ ?_ ?_ (fun i hi => absurd hi (Nat.not_lt_zero _)) (fun a b hab => ?_)
  · rw [mup_at, if_neg (by decide), mup_at, if_neg (by decide)]; exact h2
  · rw [mup_at, if_neg (by omega), mup_at, if_neg (by omega)]; exact h3 i hi
  · rw [mup_at, if_neg (by decide), mup_at, if_pos (by decide)]; rfl
  · rw [mup_at, if_pos (by decide)]; rfl
  · rw [pm_ne (by omega), pm_ne (by omega)]
/-! the model's reader, at its command c -/
def Mst (M0 M : Mem) (tx : Nat → Nat) (L c : Nat) (r : Rdr) : Prop := (L ≤ 60 ∧ M 12 47 20 = nI L ∧ ∀ i, i < L → M 12 53 i = nI (tx i) ∧ tx i < 65536) ∧ (M 12 47 19 = nI r.2.1 ∧ M 12 47 21 = nI c ∧ M 12 47 22 = nI (!r.1).toNat) ∧ (r.2.1 ≤ L ∧ c < 15) ∧ (r.1 = true → ∀ j, j < r.2.2.1 → M 12 54 (6 * c + 1 + j) = nI (r.2.2.2 j)) ∧ ∀ a b k, ¬ (a = 12 ∧ (b = 47 ∧ (k = 19 ∨ k = 22) ∨ b = 54 ∧ 6 * c < k ∧ k < 6 * c + 6)) → M a b k = M0 a b k
theorem m_here {M0 M : Mem} {tx : Nat → Nat} {L c j : Nat} {r : Rdr} (h : Mst M0 M tx L c r) (hj : j < 10) : f_X12_here (nI j) M = some (pk tx L (r.2.1 + j)) := by
  obtain ⟨⟨h1, h2, h3⟩, ⟨h4, h5, h6⟩, ⟨h7, h8⟩, h9, h10⟩ := h
  unfold f_X12_here pk
  by_cases q : r.2.1 + j < L
  · rw [if_pos q]
    simp (disch := omega) only [lit_0, lit_1, lit_2, lit_3, lit_4, lit_5, lit_6, lit_7, lit_8, lit_9, lit_10, lit_11, lit_12, lit_13, lit_14, lit_15, lit_16, lit_20, lit_23, lit_24, lit_31, lit_32, lit_39, lit_43, lit_45, lit_47, lit_48, lit_56, lit_57, lit_59, lit_60, lit_62, lit_63, lit_89, lit_92, lit_96, lit_97, lit_99, lit_100, lit_102, lit_103, lit_104, lit_110, lit_111, lit_115, lit_117, lit_194, lit_200, lit_644, lit_736, lit_999, lit_1000, lit_9999, lit_10000, lit_1000000000, ↓wp_mlet, ↓wp_mbp, ↓wp_ite, ↓wp_mix, ↓wp_mdiv, ↓wp_mnz, ↓wp_some, ↓wp_mbnd, ↓mlet_eq, ↓mbp_eq, ↓mbnd_eq, ↓mix_ite, ↓mdiv_ite, ↓mnz_ite, nI_add, nI_mul, nI_nat, nI_ltE, nI_leE, nI_eqE, nI_eqN, nI_Neq, nI_Nlt, nI_Nle, nI_ltN, nI_leN, ↓reduceIte, ↓Nat.reduceEqDiff, and_f, nt_e, nt_t, nl_t, nl_f, ne_t, ne_f, and_self, or_self, or_true, true_or, or_false, false_or, if_true, if_false, and_true, true_and, and_false, false_and, not_true, not_false_iff, h2, h4, (h3 (r.2.1 + j) q).1]
  · rw [if_neg q]
    simp (disch := omega) only [lit_0, lit_1, lit_2, lit_3, lit_4, lit_5, lit_6, lit_7, lit_8, lit_9, lit_10, lit_11, lit_12, lit_13, lit_14, lit_15, lit_16, lit_20, lit_23, lit_24, lit_31, lit_32, lit_39, lit_43, lit_45, lit_47, lit_48, lit_56, lit_57, lit_59, lit_60, lit_62, lit_63, lit_89, lit_92, lit_96, lit_97, lit_99, lit_100, lit_102, lit_103, lit_104, lit_110, lit_111, lit_115, lit_117, lit_194, lit_200, lit_644, lit_736, lit_999, lit_1000, lit_9999, lit_10000, lit_1000000000, ↓wp_mlet, ↓wp_mbp, ↓wp_ite, ↓wp_mix, ↓wp_mdiv, ↓wp_mnz, ↓wp_some, ↓wp_mbnd, ↓mlet_eq, ↓mbp_eq, ↓mbnd_eq, ↓mix_ite, ↓mdiv_ite, ↓mnz_ite, nI_add, nI_mul, nI_nat, nI_ltE, nI_leE, nI_eqE, nI_eqN, nI_Neq, nI_Nlt, nI_Nle, nI_ltN, nI_leN, ↓reduceIte, ↓Nat.reduceEqDiff, and_f, nt_e, nt_t, nl_t, nl_f, ne_t, ne_f, and_self, or_self, or_true, true_or, or_false, false_or, if_true, if_false, and_true, true_and, and_false, false_and, not_true, not_false_iff, h2, h4]
/-- place and mark set anew -/
theorem Mst.set {M0 M M1 : Mem} {tx : Nat → Nat} {L c p : Nat} {r : Rdr} {ok : Bool} (h : Mst M0 M tx L c r) (hp : p ≤ L) (hok : ok = true → r.1 = true) (e19 : M1 12 47 19 = nI p) (e22 : M1 12 47 22 = nI (!ok).toNat) (hf : ∀ a b k, ¬ (a = 12 ∧ b = 47 ∧ (k = 19 ∨ k = 22)) → M1 a b k = M a b k) : Mst M0 M1 tx L c (ok, p, r.2.2) := by
  obtain ⟨⟨h1, h2, h3⟩, ⟨h4, h5, h6⟩, ⟨h7, h8⟩, h9, h10⟩ := h
  refine ⟨⟨h1, ?_, fun i hi => ?_⟩, ⟨e19, ?_, e22⟩, ⟨hp, h8⟩, fun hr j hj => ?_, fun a b k hab => ?_⟩
  · rw [hf 12 47 20 (by decide)]; exact h2
  · rw [hf 12 53 i (by omega)]; exact h3 i hi
  · rw [hf 12 47 21 (by decide)]; exact h5
  · rw [hf 12 54 _ (by omega)]; exact h9 (hok hr) j hj
  · rw [hf a b k (by omega)]; exact h10 a b k hab
theorem lit_nil {tx : Nat → Nat} {L : Nat} {r : Rdr} : lit tx L [] r = r := by
  unfold lit
  by_cases h : r.1 = true
  · rw [if_pos h]
    exact Prod.ext h.symm rfl
  · rw [if_neg h]
theorem lit_ct {tx : Nat → Nat} {L : Nat} {k : Int32} {cs : List Int32} {r : Rdr} (hr : r.1 = true) (q : isAt tx L r.2.1 k = true) : lit tx L (k :: cs) r = lit tx L cs (true, r.2.1 + 1, r.2.2) := by
  unfold lit
  rw [if_pos hr, if_pos rfl, ml_c, if_pos q, List.length_cons]
  refine Prod.ext (dec_cg ?_) (Prod.ext ?_ rfl)
  · show 1 + ml tx L cs (r.2.1 + 1) = cs.length + 1 ↔ ml tx L cs (r.2.1 + 1) = cs.length
    omega
  · show r.2.1 + (1 + ml tx L cs (r.2.1 + 1)) = r.2.1 + 1 + ml tx L cs (r.2.1 + 1)
    omega
theorem lit_cf {tx : Nat → Nat} {L : Nat} {k : Int32} {cs : List Int32} {r : Rdr} (hr : r.1 = true) (q : ¬ isAt tx L r.2.1 k = true) : lit tx L (k :: cs) r = (false, r.2) := by
  unfold lit
  rw [if_pos hr, ml_c, if_neg q, List.length_cons]
  rfl
theorem m_saysL {M0 : Mem} {tx : Nat → Nat} {L c t : Nat} (hlen : mTl.getD t 0 = (mTx.getD t []).length) (h8 : (mTx.getD t []).length ≤ 8) (kk : Mem → Option (Unit × Mem)) : ∀ (cs : List Int32) (x N : Nat) (r : Rdr) (M : Mem), (mTx.getD t []).drop x = cs → x + cs.length = (mTx.getD t []).length → cs.length + 1 < N → (∀ k, k ∈ cs → ∃ j, j < 65536 ∧ k = nI j) → Mst M0 M tx L c r → ∃ M1, Mst M0 M1 tx L c (lit tx L cs r) ∧ f_X12_says_L2 t N (nI x) M kk = kk M1 := by
  have stop : ∀ (x n : Nat) (r : Rdr) (M : Mem), x ≤ 100 → ¬ r.1 = true → Mst M0 M tx L c r → f_X12_says_L2 t (n + 1) (nI x) M kk = kk M := by
    intro x n r M hx hr h
    have hr2 : r.1 = false := by simpa using hr
    have e22 := h.2.1.2.2
    rw [hr2] at e22
    rw [f_X12_says_L2.eq_2, e22]
    by_cases q : Int32.ofNat (mTl.getD t 0) ≤ nI x
    · rw [if_pos q]
    · rw [if_neg q, if_neg (by decide)]
  intro cs
  induction cs with
  | nil =>
    intro x N r M h1 h2 h3 hcs h
    obtain ⟨n, rfl⟩ : ∃ n, N = n + 1 := ⟨N - 1, by omega⟩
    rw [List.length_nil] at h2
    have e1 : Int32.ofNat (mTl.getD t 0) = nI x := by rw [hlen, ← h2]; rfl
    rw [lit_nil, f_X12_says_L2.eq_2, e1, if_pos (by rw [nI_leE (by omega) (by omega)]; omega)]
    exact ⟨M, h, rfl⟩
  | cons k cs ih =>
    intro x N r M h1 h2 h3 hcs h
    obtain ⟨n, rfl⟩ : ∃ n, N = n + 1 := ⟨N - 1, by omega⟩
    rw [List.length_cons] at h2 h3
    by_cases hr : r.1 = true
    · obtain ⟨g1, g2⟩ := getD_drop h1
      have g1' : (mTx.getD t []).getD x (nI 0) = k := g1
      have e1 : Int32.ofNat (mTl.getD t 0) = nI (x + (cs.length + 1)) := by rw [hlen, ← h2]; rfl
      have h' := h
      obtain ⟨⟨t1, t2, t3⟩, ⟨t4, t5, t6⟩, ⟨t7, t8⟩, t9, t10⟩ := h'
      have eh := m_here (j := 0) h (by decide)
      rw [Nat.add_zero] at eh
      obtain ⟨kn, hk1, hk2⟩ := hcs k (by simp)
      have ek := pk_at (tx := tx) (L := L) (p := r.2.1) (c := kn) (fun i hi => (t3 i hi).2) hk1
      rw [hr] at t6
      have t6' : M 12 47 22 = nI 0 := t6
      rw [f_X12_says_L2.eq_2, e1, if_neg (by rw [nI_leE (by omega) (by omega)]; omega), t6']
      simp only [lit_0, lit_1, lit_2, lit_3, lit_4, lit_5, lit_6, lit_7, lit_8, lit_9, lit_10, lit_11, lit_12, lit_13, lit_14, lit_15, lit_16, lit_20, lit_23, lit_24, lit_31, lit_32, lit_39, lit_43, lit_45, lit_47, lit_48, lit_56, lit_57, lit_59, lit_60, lit_62, lit_63, lit_89, lit_92, lit_96, lit_97, lit_99, lit_100, lit_102, lit_103, lit_104, lit_110, lit_111, lit_115, lit_117, lit_194, lit_200, lit_644, lit_736, lit_999, lit_1000, lit_9999, lit_10000, lit_1000000000]
      rw [if_pos trivial, eh, mbp_eq, nI_mix (by rw [hlen]; omega) (by omega), nI_nat (by omega), g1']
      by_cases q : isAt tx L r.2.1 k = true
      · have q2 : pk tx L r.2.1 = k := by rw [hk2, ek, ← hk2]; exact q
        have l := (isAt_lt q).1
        have h2' : Mst M0 (mup (mup M 12 47 22 (nI 0)) 12 47 19 (nI (r.2.1 + 1))) tx L c (true, r.2.1 + 1, r.2.2) := h.set (by omega) (fun _ => hr) (by rw [mup_at, if_pos (by decide)]) (by rw [mup_at, if_neg (by decide), mup_at, if_pos (by decide)]; rfl) (fun a b k' hab => by rw [mup_at, if_neg (by omega), mup_at, if_neg (by omega)])
        obtain ⟨M1, k1, k2⟩ := ih (x + 1) n _ _ g2 (by omega) (by omega) (fun k' hk' => hcs k' (by simp [hk'])) h2'
        refine ⟨M1, by rw [lit_ct hr q]; exact k1, ?_⟩
        have x22 : (mup M 12 47 22 (nI 0)) 12 47 22 = nI 0 := by rw [mup_at, if_pos (by decide)]
        have x19 : (mup M 12 47 22 (nI 0)) 12 47 19 = nI r.2.1 := by rw [mup_at, if_neg (by decide)]; exact t4
        simp (disch := omega) only [lit_0, lit_1, lit_2, lit_3, lit_4, lit_5, lit_6, lit_7, lit_8, lit_9, lit_10, lit_11, lit_12, lit_13, lit_14, lit_15, lit_16, lit_20, lit_23, lit_24, lit_31, lit_32, lit_39, lit_43, lit_45, lit_47, lit_48, lit_56, lit_57, lit_59, lit_60, lit_62, lit_63, lit_89, lit_92, lit_96, lit_97, lit_99, lit_100, lit_102, lit_103, lit_104, lit_110, lit_111, lit_115, lit_117, lit_194, lit_200, lit_644, lit_736, lit_999, lit_1000, lit_9999, lit_10000, lit_1000000000, ↓wp_mlet, ↓wp_mbp, ↓wp_ite, ↓wp_mix, ↓wp_mdiv, ↓wp_mnz, ↓wp_some, ↓wp_mbnd, ↓mlet_eq, ↓mbp_eq, ↓mbnd_eq, ↓mix_ite, ↓mdiv_ite, ↓mnz_ite, nI_add, nI_mul, nI_nat, nI_ltE, nI_leE, nI_eqE, nI_eqN, nI_Neq, nI_Nlt, nI_Nle, nI_ltN, nI_leN, ↓reduceIte, ↓Nat.reduceEqDiff, and_f, nt_e, nt_t, nl_t, nl_f, ne_t, ne_f, and_self, or_self, or_true, true_or, or_false, false_or, if_true, if_false, and_true, true_and, and_false, false_and, not_true, not_false_iff, q2, x22, x19]
        exact k2
      · have q2 : ¬ pk tx L r.2.1 = k := by rw [hk2, ek, ← hk2]; exact q
        have h2' : Mst M0 (mup (mup M 12 47 22 (nI 1)) 12 47 19 (nI r.2.1)) tx L c (false, r.2.1, r.2.2) := h.set t7 (fun e => (by cases e)) (by rw [mup_at, if_pos (by decide)]) (by rw [mup_at, if_neg (by decide), mup_at, if_pos (by decide)]; rfl) (fun a b k' hab => by rw [mup_at, if_neg (by omega), mup_at, if_neg (by omega)])
        refine ⟨_, by rw [lit_cf hr q]; exact h2', ?_⟩
        have x22 : (mup M 12 47 22 (nI 1)) 12 47 22 = nI 1 := by rw [mup_at, if_pos (by decide)]
        have x19 : (mup M 12 47 22 (nI 1)) 12 47 19 = nI r.2.1 := by rw [mup_at, if_neg (by decide)]; exact t4
        simp (disch := omega) only [mlet_eq]
        rw [if_neg q2]
        simp (disch := omega) only [lit_0, lit_1, lit_2, lit_3, lit_4, lit_5, lit_6, lit_7, lit_8, lit_9, lit_10, lit_11, lit_12, lit_13, lit_14, lit_15, lit_16, lit_20, lit_23, lit_24, lit_31, lit_32, lit_39, lit_43, lit_45, lit_47, lit_48, lit_56, lit_57, lit_59, lit_60, lit_62, lit_63, lit_89, lit_92, lit_96, lit_97, lit_99, lit_100, lit_102, lit_103, lit_104, lit_110, lit_111, lit_115, lit_117, lit_194, lit_200, lit_644, lit_736, lit_999, lit_1000, lit_9999, lit_10000, lit_1000000000, ↓wp_mlet, ↓wp_mbp, ↓wp_ite, ↓wp_mix, ↓wp_mdiv, ↓wp_mnz, ↓wp_some, ↓wp_mbnd, ↓mlet_eq, ↓mbp_eq, ↓mbnd_eq, ↓mix_ite, ↓mdiv_ite, ↓mnz_ite, nI_add, nI_mul, nI_nat, nI_ltE, nI_leE, nI_eqE, nI_eqN, nI_Neq, nI_Nlt, nI_Nle, nI_ltN, nI_leN, ↓reduceIte, ↓Nat.reduceEqDiff, and_f, nt_e, nt_t, nl_t, nl_f, ne_t, ne_f, and_self, or_self, or_true, true_or, or_false, false_or, if_true, if_false, and_true, true_and, and_false, false_and, not_true, not_false_iff, x22, x19, Nat.add_zero]
        obtain ⟨n', rfl⟩ : ∃ n', n = n' + 1 := ⟨n - 1, by omega⟩
        exact stop (x + 1) n' _ _ (by omega) (fun e => (by cases e)) h2'
    · rw [lit_no hr]
      exact ⟨M, h, stop x n r M (by omega) hr h⟩
theorem m_says {M0 M : Mem} {tx : Nat → Nat} {L c t : Nat} {r : Rdr} (hlen : mTl.getD t 0 = (mTx.getD t []).length) (h8 : (mTx.getD t []).length ≤ 8) (hcs : ∀ k, k ∈ mTx.getD t [] → ∃ j, j < 65536 ∧ k = nI j) (h : Mst M0 M tx L c r) : wp (f_X12_says t M) fun _ M1 => Mst M0 M1 tx L c (lit tx L (mTx.getD t []) r) := by
  obtain ⟨M1, h1, e⟩ := m_saysL hlen h8 (fun M15 => some ((), M15)) (mTx.getD t []) 0 1000 r M rfl (by rw [Nat.zero_add]) (by omega) hcs h
  unfold f_X12_says
  have e0 : f_X12_says_L2 t 1000 0 M (fun M15 => some ((), M15)) = f_X12_says_L2 t 1000 (nI 0) M (fun M15 => some ((), M15)) := rfl
  rw [e0, e, wp_some]
  exact h1
theorem in_dig {M : Mem} {tx : Nat → Nat} {L p : Nat} (h : ∀ i, i < L → tx i < 65536) : f_X12_in (pk tx L p) (nI 48) (nI 57) M = some (nI (isD tx L p).toNat) := by
  unfold f_X12_in pk isD
  by_cases q : p < L
  · have := h p q
    rw [if_pos q, decide_eq_true q, Bool.true_and]
    by_cases q1 : 48 ≤ tx p
    · by_cases q2 : tx p ≤ 57
      · rw [if_neg (by rw [nI_ltE (by omega) (by omega)]; omega), if_neg (by rw [nI_ltE (by omega) (by omega)]; omega), decide_eq_true q1, decide_eq_true q2]
        rfl
      · rw [if_neg (by rw [nI_ltE (by omega) (by omega)]; omega), if_pos (by rw [nI_ltE (by omega) (by omega)]; omega), decide_eq_true q1, decide_eq_false q2]
        rfl
    · rw [if_pos (by rw [nI_ltE (by omega) (by omega)]; omega), decide_eq_false q1]
      rfl
  · rw [if_neg q, decide_eq_false q, if_pos (by decide)]
    rfl
/-- the digits -/
theorem m_digits {M0 : Mem} {tx : Nat → Nat} {L c m : Nat} (kk : Int32 → Int32 → Mem → Option (Unit × Mem)) : ∀ d N x v (r : Rdr) (M : Mem), x + d = m → d < N → m ≤ 2 → r.1 = true → Mst M0 M tx L c r → ∃ M1, Mst M0 M1 tx L c (true, r.2.1 + dgc tx L d r.2.1, r.2.2) ∧ f_X12_number_L11 (nI m) N (nI v) (nI x) M kk = kk (nI (dgv tx L d r.2.1 v)) (nI (x + dgc tx L d r.2.1)) M1 := by
  intro d
  induction d with
  | zero =>
    intro N x v r M h1 h2 hm hr h
    obtain ⟨n, rfl⟩ : ∃ n, N = n + 1 := ⟨N - 1, by omega⟩
    have e22 : M 12 47 22 = nI 0 := by have := h.2.1.2.2; rw [hr] at this; exact this
    refine ⟨M, by rw [← hr]; exact h, ?_⟩
    rw [f_X12_number_L11.eq_2, e22, if_pos (show nI 0 = 0 from rfl), if_pos (by rw [nI_leE (by omega) (by omega)]; omega)]
    rfl
  | succ d ih =>
    intro N x v r M h1 h2 hm hr h
    obtain ⟨n, rfl⟩ : ∃ n, N = n + 1 := ⟨N - 1, by omega⟩
    have e22 : M 12 47 22 = nI 0 := by have := h.2.1.2.2; rw [hr] at this; exact this
    have h' := h
    obtain ⟨⟨t1, t2, t3⟩, ⟨t4, t5, t6⟩, ⟨t7, t8⟩, t9, t10⟩ := h'
    have eh := m_here (j := 0) h (by decide)
    rw [Nat.add_zero] at eh
    have ed := in_dig (M := M) (p := r.2.1) (fun i hi => (t3 i hi).2)
    rw [f_X12_number_L11.eq_2, dgc_s, dgv_s, e22]
    simp only [lit_0, lit_1, lit_2, lit_3, lit_4, lit_5, lit_6, lit_7, lit_8, lit_9, lit_10, lit_11, lit_12, lit_13, lit_14, lit_15, lit_16, lit_20, lit_23, lit_24, lit_31, lit_32, lit_39, lit_43, lit_45, lit_47, lit_48, lit_56, lit_57, lit_59, lit_60, lit_62, lit_63, lit_89, lit_92, lit_96, lit_97, lit_99, lit_100, lit_102, lit_103, lit_104, lit_110, lit_111, lit_115, lit_117, lit_194, lit_200, lit_644, lit_736, lit_999, lit_1000, lit_9999, lit_10000, lit_1000000000]
    rw [if_pos trivial, if_neg (show ¬ nI m ≤ nI x by rw [nI_leE (by omega) (by omega)]; omega), eh, mbp_eq, ed, mbp_eq]
    by_cases q : isD tx L r.2.1 = true
    · rw [if_pos q, if_pos q, q, if_neg (by decide), mbp_eq]
      rw [isD_t] at q
      have e2 : pk tx L r.2.1 = nI (tx r.2.1) := if_pos q.1
      have h3 : Mst M0 (mup M 12 47 19 (nI (r.2.1 + 1))) tx L c (true, r.2.1 + 1, r.2.2) := h.set (by omega) (fun _ => hr) (by rw [mup_at, if_pos (by decide)]) (by rw [mup_at, if_neg (by decide)]; exact e22) (fun a b k' hab => by rw [mup_at, if_neg (by omega)])
      obtain ⟨M1, k1, k2⟩ := ih n (x + 1) (v * 10 + (tx r.2.1 - 48)) (true, r.2.1 + 1, r.2.2) _ (by omega) (by omega) hm rfl h3
      refine ⟨M1, ?_, ?_⟩
      · rw [show r.2.1 + (1 + dgc tx L d (r.2.1 + 1)) = r.2.1 + 1 + dgc tx L d (r.2.1 + 1) by omega]
        exact k1
      · have e3 : nI (10 * v + tx r.2.1) - nI 48 = nI (v * 10 + (tx r.2.1 - 48)) := by rw [nI_subE (by omega)]; congr 1; omega
        simp (disch := omega) only [lit_0, lit_1, lit_2, lit_3, lit_4, lit_5, lit_6, lit_7, lit_8, lit_9, lit_10, lit_11, lit_12, lit_13, lit_14, lit_15, lit_16, lit_20, lit_23, lit_24, lit_31, lit_32, lit_39, lit_43, lit_45, lit_47, lit_48, lit_56, lit_57, lit_59, lit_60, lit_62, lit_63, lit_89, lit_92, lit_96, lit_97, lit_99, lit_100, lit_102, lit_103, lit_104, lit_110, lit_111, lit_115, lit_117, lit_194, lit_200, lit_644, lit_736, lit_999, lit_1000, lit_9999, lit_10000, lit_1000000000, ↓wp_mlet, ↓wp_mbp, ↓wp_ite, ↓wp_mix, ↓wp_mdiv, ↓wp_mnz, ↓wp_some, ↓wp_mbnd, ↓mlet_eq, ↓mbp_eq, ↓mbnd_eq, ↓mix_ite, ↓mdiv_ite, ↓mnz_ite, nI_add, nI_mul, nI_nat, nI_ltE, nI_leE, nI_eqE, nI_eqN, nI_Neq, nI_Nlt, nI_Nle, nI_ltN, nI_leN, ↓reduceIte, ↓Nat.reduceEqDiff, and_f, nt_e, nt_t, nl_t, nl_f, ne_t, ne_f, and_self, or_self, or_true, true_or, or_false, false_or, if_true, if_false, and_true, true_and, and_false, false_and, not_true, not_false_iff, e2, t4, e3]
        rw [show x + (1 + dgc tx L d (r.2.1 + 1)) = x + 1 + dgc tx L d (r.2.1 + 1) by omega]
        exact k2
    · have q' : isD tx L r.2.1 = false := by simpa using q
      rw [if_neg q, if_neg q, q', if_pos (by decide), Nat.add_zero, Nat.add_zero]
      exact ⟨M, by rw [← hr]; exact h, rfl⟩
theorem num_at {M0 M M1 : Mem} {tx : Nat → Nat} {L c k v : Nat} {r r' : Rdr} {w : Bool} (h : Mst M0 M tx L c r) (hk : 1 ≤ k ∧ k < 6) (h22 : M1 = mup (mup M 12 47 22 (nI w.toNat)) 12 54 (6 * c + k) (nI v)) (hr1 : r'.1 = !w) (hr2 : r'.2.1 = r.2.1) (hr : r'.1 = true → r.1 = true ∧ k = r.2.2.1 + 1 ∧ r'.2.2 = (r.2.2.1 + 1, fun j => if j = r.2.2.1 then v else r.2.2.2 j)) : Mst M0 M1 tx L c r' := by
  obtain ⟨⟨h1, h2, h3⟩, ⟨h4, h5, h6⟩, ⟨h7, h8⟩, h9, h10⟩ := h
  subst h22
  refine ⟨⟨h1, ?_, fun i hi => ?_⟩, ⟨?_, ?_, ?_⟩, ⟨by rw [hr2]; exact h7, h8⟩, fun hh j hj => ?_, fun a b k' hab => ?_⟩
  · rw [mup_at, if_neg (by omega), mup_at, if_neg (by omega)]; exact h2
  · rw [mup_at, if_neg (by omega), mup_at, if_neg (by omega)]; exact h3 i hi
  · rw [mup_at, if_neg (by omega), mup_at, if_neg (by omega), hr2]; exact h4
  · rw [mup_at, if_neg (by omega), mup_at, if_neg (by omega)]; exact h5
  · rw [mup_at, if_neg (by omega), mup_at, if_pos (by decide), hr1, Bool.not_not]
  · obtain ⟨g1, g2, g3⟩ := hr hh
    rw [g3] at hj ⊢
    have hj' : j < r.2.2.1 + 1 := hj
    show _ = nI (if j = r.2.2.1 then v else r.2.2.2 j)
    rw [mup_at]
    by_cases q : j = r.2.2.1
    · rw [if_pos (by omega), if_pos q]
    · rw [if_neg (by omega), if_neg q, mup_at, if_neg (by omega)]
      exact h9 g1 j (by omega)
  · rw [mup_at, if_neg (by omega), mup_at, if_neg (by omega)]; exact h10 a b k' hab
theorem m_number {M0 M : Mem} {tx : Nat → Nat} {L c t k m : Nat} {r : Rdr} (hlen : mTl.getD t 0 = (mTx.getD t []).length) (h8 : (mTx.getD t []).length ≤ 8) (hcs : ∀ k, k ∈ mTx.getD t [] → ∃ j, j < 65536 ∧ k = nI j) (hm : 1 ≤ m ∧ m ≤ 2) (hk : 1 ≤ k ∧ k < 6) (h : Mst M0 M tx L c r) (hc : r.1 = true → k = r.2.2.1 + 1) : wp (f_X12_number t (nI k) (nI m) M) fun _ M1 => Mst M0 M1 tx L c (num tx L m (lit tx L (mTx.getD t []) r)) := by
  obtain ⟨⟨⟩, M1, e1, h1⟩ := m_says hlen h8 hcs h
  have hcnt : (lit tx L (mTx.getD t []) r).2.2 = r.2.2 := lit_cnt
  have hrr : (lit tx L (mTx.getD t []) r).1 = true → r.1 = true := fun q => by
    by_cases q2 : r.1 = true
    · exact q2
    · rw [lit_no q2] at q; exact q
  unfold f_X12_number
  generalize hN : (1000 : Nat) = N
  generalize lit tx L (mTx.getD t []) r = s at *
  rw [e1, mbnd_eq]
  have c15 := h1.2.2.1.2
  by_cases q : s.1 = true
  · have hk1 := hc (hrr q)
    obtain ⟨M2, h2, k2⟩ := m_digits (M0 := M0) (c := c) (m := m) (fun x15 x16 M17 => (mlet (fun (x21 : Int32) => (mnz x21 (mlet (mup M17 12 47 22 x21) fun M23 => (mix (((6 : Int32) * (M23 12 47 21)) + (nI k)) 360 (mlet (mup M23 12 54 (((6 : Int32) * (M23 12 47 21)) + (nI k)).toNatClampNeg x15) fun M24 => (some ((), M24))))))) fun k89_22 => (mlet (fun (_u : Unit) => (k89_22 (1 : Int32))) fun k84_20 => (if (M17 12 47 22) = 0 then (if x16 = 0 then (k84_20 ()) else (k89_22 (0 : Int32))) else (k84_20 ()))))) m N 0 0 s M1 (by omega) (by omega) hm.2 q h1
    have e0 : ∀ kk, f_X12_number_L11 (nI m) N 0 0 M1 kk = f_X12_number_L11 (nI m) N (nI 0) (nI 0) M1 kk := fun _ => rfl
    rw [e0, k2, Nat.zero_add]
    have l := dgc_L (tx := tx) (L := L) m s.2.1 h1.2.2.1.1
    have l60 := h1.1.1
    have e22 : M2 12 47 22 = nI 0 := h2.2.1.2.2
    have e21 := h2.2.1.2.1
    have x21 : ∀ w, (mup M2 12 47 22 w) 12 47 21 = nI c := fun w => by rw [mup_at, if_neg (by decide)]; exact e21
    unfold num
    rw [if_pos q]
    by_cases q2 : dgc tx L m s.2.1 = 0
    · rw [if_pos q2, q2]
      simp (disch := omega) only [lit_0, lit_1, lit_2, lit_3, lit_4, lit_5, lit_6, lit_7, lit_8, lit_9, lit_10, lit_11, lit_12, lit_13, lit_14, lit_15, lit_16, lit_20, lit_23, lit_24, lit_31, lit_32, lit_39, lit_43, lit_45, lit_47, lit_48, lit_56, lit_57, lit_59, lit_60, lit_62, lit_63, lit_89, lit_92, lit_96, lit_97, lit_99, lit_100, lit_102, lit_103, lit_104, lit_110, lit_111, lit_115, lit_117, lit_194, lit_200, lit_644, lit_736, lit_999, lit_1000, lit_9999, lit_10000, lit_1000000000, ↓wp_mlet, ↓wp_mbp, ↓wp_ite, ↓wp_mix, ↓wp_mdiv, ↓wp_mnz, ↓wp_some, ↓wp_mbnd, ↓mlet_eq, ↓mbp_eq, ↓mbnd_eq, ↓mix_ite, ↓mdiv_ite, ↓mnz_ite, nI_add, nI_mul, nI_nat, nI_ltE, nI_leE, nI_eqE, nI_eqN, nI_Neq, nI_Nlt, nI_Nle, nI_ltN, nI_leN, ↓reduceIte, ↓Nat.reduceEqDiff, and_f, nt_e, nt_t, nl_t, nl_f, ne_t, ne_f, and_self, or_self, or_true, true_or, or_false, false_or, if_true, if_false, and_true, true_and, and_false, false_and, not_true, not_false_iff, e22, x21]
      refine num_at (w := true) (k := k) h2 hk rfl rfl ?_ (fun e => (by cases e))
      show s.2.1 = s.2.1 + dgc tx L m s.2.1
      rw [q2]; rfl
    · rw [if_neg q2]
      simp (disch := omega) only [lit_0, lit_1, lit_2, lit_3, lit_4, lit_5, lit_6, lit_7, lit_8, lit_9, lit_10, lit_11, lit_12, lit_13, lit_14, lit_15, lit_16, lit_20, lit_23, lit_24, lit_31, lit_32, lit_39, lit_43, lit_45, lit_47, lit_48, lit_56, lit_57, lit_59, lit_60, lit_62, lit_63, lit_89, lit_92, lit_96, lit_97, lit_99, lit_100, lit_102, lit_103, lit_104, lit_110, lit_111, lit_115, lit_117, lit_194, lit_200, lit_644, lit_736, lit_999, lit_1000, lit_9999, lit_10000, lit_1000000000, ↓wp_mlet, ↓wp_mbp, ↓wp_ite, ↓wp_mix, ↓wp_mdiv, ↓wp_mnz, ↓wp_some, ↓wp_mbnd, ↓mlet_eq, ↓mbp_eq, ↓mbnd_eq, ↓mix_ite, ↓mdiv_ite, ↓mnz_ite, nI_add, nI_mul, nI_nat, nI_ltE, nI_leE, nI_eqE, nI_eqN, nI_Neq, nI_Nlt, nI_Nle, nI_ltN, nI_leN, ↓reduceIte, ↓Nat.reduceEqDiff, and_f, nt_e, nt_t, nl_t, nl_f, ne_t, ne_f, and_self, or_self, or_true, true_or, or_false, false_or, if_true, if_false, and_true, true_and, and_false, false_and, not_true, not_false_iff, e22, x21]
      refine num_at (w := false) (k := k) h2 hk rfl rfl rfl (fun _ => ⟨rfl, ?_, rfl⟩)
      show k = s.2.2.1 + 1
      rw [hcnt]
      exact hk1
  · have q' : s.1 = false := by simpa using q
    have e22 : M1 12 47 22 = nI 1 := by have := h1.2.1.2.2; rw [q'] at this; exact this
    have e21 := h1.2.1.2.1
    have x21 : ∀ w, (mup M1 12 47 22 w) 12 47 21 = nI c := fun w => by rw [mup_at, if_neg (by decide)]; exact e21
    obtain ⟨n, hn⟩ : ∃ n, N = n + 1 := ⟨N - 1, by omega⟩
    rw [hn, f_X12_number_L11.eq_2, num_no q]
    simp (disch := omega) only [lit_0, lit_1, lit_2, lit_3, lit_4, lit_5, lit_6, lit_7, lit_8, lit_9, lit_10, lit_11, lit_12, lit_13, lit_14, lit_15, lit_16, lit_20, lit_23, lit_24, lit_31, lit_32, lit_39, lit_43, lit_45, lit_47, lit_48, lit_56, lit_57, lit_59, lit_60, lit_62, lit_63, lit_89, lit_92, lit_96, lit_97, lit_99, lit_100, lit_102, lit_103, lit_104, lit_110, lit_111, lit_115, lit_117, lit_194, lit_200, lit_644, lit_736, lit_999, lit_1000, lit_9999, lit_10000, lit_1000000000, ↓wp_mlet, ↓wp_mbp, ↓wp_ite, ↓wp_mix, ↓wp_mdiv, ↓wp_mnz, ↓wp_some, ↓wp_mbnd, ↓mlet_eq, ↓mbp_eq, ↓mbnd_eq, ↓mix_ite, ↓mdiv_ite, ↓mnz_ite, nI_add, nI_mul, nI_nat, nI_ltE, nI_leE, nI_eqE, nI_eqN, nI_Neq, nI_Nlt, nI_Nle, nI_ltN, nI_leN, ↓reduceIte, ↓Nat.reduceEqDiff, and_f, nt_e, nt_t, nl_t, nl_f, ne_t, ne_f, and_self, or_self, or_true, true_or, or_false, false_or, if_true, if_false, and_true, true_and, and_false, false_and, not_true, not_false_iff, e22, x21]
    exact num_at (w := true) (k := k) (v := 0) h1 hk rfl q' rfl (fun e => absurd e q)
def chain (tx : Nat → Nat) (L : Nat) : List Int32 → Rdr → Rdr
  | [], r => r
  | c :: cs, r => chain tx L cs (opF tx L c r)
theorem chain_c {tx : Nat → Nat} {L : Nat} {c : Int32} {cs : List Int32} {r : Rdr} : chain tx L (c :: cs) r = chain tx L cs (opF tx L c r) := Eq.trans rfl rfl
theorem opF_no {tx : Nat → Nat} {L : Nat} {c : Int32} {r : Rdr} (h : ¬ r.1 = true) : opF tx L c r = r := by
  unfold opF
  rw [num_no h, num_no h, dir_no h, lit_no h]
  split <;> (try rfl)
  split <;> (try rfl)
  split <;> rfl
theorem chain_no {tx : Nat → Nat} {L : Nat} : ∀ (cs : List Int32) (r : Rdr), ¬ r.1 = true → chain tx L cs r = r
  | [], _, _ => rfl
  | c :: cs, r, h => by rw [chain_c, opF_no h]; exact chain_no cs r h
theorem frmS_chain {tx : Nat → Nat} {L : Nat} : ∀ (cs : List Int32) (r : Rdr), (∀ c, c ∈ cs → c ≠ 63) → frmS tx L cs r = chain tx L cs r
  | [], _, _ => rfl
  | c :: cs, r, h => by
    rw [frm_c, chain_c, if_neg (h c (by simp))]
    split
    · exact frmS_chain cs _ (fun c' hc' => h c' (by simp [hc']))
    · rename_i q
      rw [chain_no cs _ q]
theorem cmd_chain {tx : Nat → Nat} {L p w : Nat} (h : wsel tx L p = some w) (h63 : ∀ c, c ∈ frm w → c ≠ 63) : cmdS tx L p z0 = chain tx L (frm w) (lit tx L (ltr w) (r0 p z0)) := by
  rw [cmd_some h]
  split
  · exact frmS_chain _ _ h63
  · rename_i q
    rw [chain_no _ _ q]
theorem op32 {tx : Nat → Nat} {L : Nat} {r : Rdr} : opF tx L 32 r = lit tx L [32] r := by
  unfold opF
  rw [if_neg (by decide), if_neg (by decide), if_neg (by decide)]
theorem op100 {tx : Nat → Nat} {L : Nat} {r : Rdr} : opF tx L 100 r = num tx L 1 r := if_pos rfl
theorem op110 {tx : Nat → Nat} {L : Nat} {r : Rdr} : opF tx L 110 r = num tx L 2 r := by
  unfold opF
  rw [if_neg (by decide), if_pos rfl]
theorem op115 {tx : Nat → Nat} {L : Nat} {r : Rdr} : opF tx L 115 r = dir tx L r := by
  unfold opF
  rw [if_neg (by decide), if_neg (by decide), if_pos rfl]
theorem txt_all : ∀ t : Fin 31, mTl.getD t.val 0 = (mTx.getD t.val []).length ∧ (mTx.getD t.val []).length ≤ 8 ∧ ∀ k, k ∈ mTx.getD t.val [] → k = nI k.toNatClampNeg ∧ k.toNatClampNeg < 65536 := by decide +kernel
theorem m_num' {M0 M : Mem} {tx : Nat → Nat} {L c k m : Nat} {r : Rdr} (t : Nat) (ht : t < 31) (hm : 1 ≤ m ∧ m ≤ 2) (hk : 1 ≤ k ∧ k < 6) (h : Mst M0 M tx L c r) (hc : r.1 = true → k = r.2.2.1 + 1) : wp (f_X12_number t (nI k) (nI m) M) fun _ M1 => Mst M0 M1 tx L c (num tx L m (lit tx L (mTx.getD t []) r)) := by
  obtain ⟨a1, a2, a3⟩ := txt_all ⟨t, ht⟩
  exact m_number a1 a2 (fun k hk => ⟨_, (a3 k hk).2, (a3 k hk).1⟩) hm hk h hc
theorem m_says' {M0 M : Mem} {tx : Nat → Nat} {L c : Nat} {r : Rdr} (t : Nat) (ht : t < 31) (h : Mst M0 M tx L c r) : wp (f_X12_says t M) fun _ M1 => Mst M0 M1 tx L c (lit tx L (mTx.getD t []) r) := by
  obtain ⟨a1, a2, a3⟩ := txt_all ⟨t, ht⟩
  exact m_says a1 a2 (fun k hk => ⟨_, (a3 k hk).2, (a3 k hk).1⟩) h
theorem num_ok {tx : Nat → Nat} {L m : Nat} {r : Rdr} (h : (num tx L m r).1 = true) : r.1 = true ∧ (num tx L m r).2.2.1 = r.2.2.1 + 1 := by
  by_cases q : r.1 = true
  · refine ⟨q, ?_⟩
    unfold num at h ⊢
    rw [if_pos q] at h ⊢
    by_cases q2 : dgc tx L m r.2.1 = 0
    · rw [if_pos q2] at h; cases h
    · rw [if_neg q2]; rfl
  · rw [num_no q] at h; exact absurd h q
theorem lit_ok1 {tx : Nat → Nat} {L : Nat} {ls : List Int32} {r : Rdr} (h : (lit tx L ls r).1 = true) : r.1 = true := by
  by_cases q : r.1 = true
  · exact q
  · rw [lit_no q] at h; exact h
theorem dir_ok {tx : Nat → Nat} {L : Nat} {r : Rdr} (h : (dir tx L r).1 = true) : r.1 = true ∧ (dir tx L r).2.2.1 = r.2.2.1 + 1 := by
  by_cases q : r.1 = true
  · refine ⟨q, ?_⟩
    unfold dir at h ⊢
    rw [if_pos q] at h ⊢
    by_cases q2 : isAt tx L r.2.1 43 = true
    · rw [if_pos q2]; rfl
    · rw [if_neg q2] at h ⊢
      by_cases q3 : isAt tx L r.2.1 45 = true
      · rw [if_pos q3]; rfl
      · rw [if_neg q3] at h; cases h
  · rw [dir_no q] at h; exact absurd h q
theorem m_dirPart {M0 M : Mem} {tx : Nat → Nat} {L c : Nat} {r : Rdr} (h : Mst M0 M tx L c r) (hc : r.1 = true → r.2.2.1 = 1) : ∃ M1, Mst M0 M1 tx L c (dir tx L r) ∧ ∀ K : Mem → Option (Unit × Mem), (mlet (fun (x10 : Int32) => (mnz x10 (mlet (mup M 12 47 22 x10) fun M12 => (mlet (fun (x17 : Int32) => (mix (((6 : Int32) * (M12 12 47 21)) + (2 : Int32)) 360 (mlet (mup M12 12 54 (((6 : Int32) * (M12 12 47 21)) + (2 : Int32)).toNatClampNeg x17) fun M19 => (mlet (fun (x21 : Int32) => (mlet (mup M19 12 47 19 ((M19 12 47 19) + x21)) fun M23 => K M23)) fun k97_22 => (if (M19 12 47 22) = 0 then (k97_22 (1 : Int32)) else (k97_22 (0 : Int32))))))) fun k79_18 => (mlet (fun (_u : Unit) => (k79_18 (0 : Int32))) fun k74_16 => (if (M12 12 47 22) = 0 then (mbp (f_X12_here (0 : Int32) M12) fun r14 => (if r14 = (45 : Int32) then (k74_16 ()) else (k79_18 (1 : Int32)))) else (k74_16 ()))))))) fun k41_11 => (mlet (fun (_u : Unit) => (k41_11 (1 : Int32))) fun k36_9 => (if (M 12 47 22) = 0 then (mbp (f_X12_here (0 : Int32) M) fun r4 => (mlet (fun (_u : Unit) => (k41_11 (0 : Int32))) fun k40_8 => (if r4 = (43 : Int32) then (k40_8 ()) else (mbp (f_X12_here (0 : Int32) M) fun r6 => (if r6 = (45 : Int32) then (k40_8 ()) else (k36_9 ())))))) else (k36_9 ())))) = K M1 := by
  have h' := h
  obtain ⟨⟨t1, t2, t3⟩, ⟨t4, t5, t6⟩, ⟨t7, t8⟩, t9, t10⟩ := h'
  have x21 : ∀ w, (mup M 12 47 22 w) 12 47 21 = nI c := fun w => by rw [mup_at, if_neg (by decide)]; exact t5
  have x22 : ∀ w, (mup M 12 47 22 w) 12 47 22 = w := fun w => by rw [mup_at, if_pos (by decide)]
  have y22 : ∀ w v, (mup (mup M 12 47 22 w) 12 54 (6 * c + 2) v) 12 47 22 = w := fun w v => by rw [mup_at, if_neg (by omega)]; exact x22 w
  have y19 : ∀ w v, (mup (mup M 12 47 22 w) 12 54 (6 * c + 2) v) 12 47 19 = nI r.2.1 := fun w v => by rw [mup_at, if_neg (by omega), mup_at, if_neg (by decide)]; exact t4
  by_cases q : r.1 = true
  · rw [q] at t6
    have e22 : M 12 47 22 = nI 0 := t6
    have eh := m_here (j := 0) h (by decide)
    rw [Nat.add_zero] at eh
    have hS : Mst M0 (mup M 12 47 22 (nI 0)) tx L c r := by
      have := h.set (M1 := mup M 12 47 22 (nI 0)) (p := r.2.1) (ok := true) t7 (fun _ => q) (by rw [mup_at, if_neg (by decide)]; exact t4) (by rw [mup_at, if_pos (by decide)]; rfl) (fun a b k hab => by rw [mup_at, if_neg (by omega)])
      rw [← q] at this
      exact this
    have eh2 := m_here (j := 0) hS (by decide)
    rw [Nat.add_zero] at eh2
    have e43 := pk_at (tx := tx) (L := L) (p := r.2.1) (c := 43) (fun i hi => (t3 i hi).2) (by decide)
    have e45 := pk_at (tx := tx) (L := L) (p := r.2.1) (c := 45) (fun i hi => (t3 i hi).2) (by decide)
    have hc1 := hc q
    unfold dir
    rw [if_pos q]
    by_cases q1 : isAt tx L r.2.1 43 = true
    · have l := (isAt_lt q1).1
      have ep : pk tx L r.2.1 = nI 43 := by rw [e43]; exact q1
      rw [if_pos q1]
      rw [ep] at eh eh2
      have g1 : Mst M0 (mup (mup M 12 47 22 (nI 0)) 12 54 (6 * c + 2) (nI 1)) tx L c (pushn 1 (true, r.2)) := num_at (w := false) (k := 2) (v := 1) h (by decide) rfl rfl rfl (fun _ => ⟨q, by omega, rfl⟩)
      have g2 : Mst M0 (mup (mup (mup M 12 47 22 (nI 0)) 12 54 (6 * c + 2) (nI 1)) 12 47 19 (nI (r.2.1 + 1))) tx L c (true, r.2.1 + 1, (pushn 1 (true, r.2)).2.2) := g1.set (by omega) (fun _ => rfl) (by rw [mup_at, if_pos (by decide)]) (by rw [mup_at, if_neg (by decide)]; exact y22 _ _) (fun a b k hab => by rw [mup_at, if_neg (by omega)])
      refine ⟨_, g2, fun K => ?_⟩
      simp (disch := omega) only [lit_0, lit_1, lit_2, lit_3, lit_4, lit_5, lit_6, lit_7, lit_8, lit_9, lit_10, lit_11, lit_12, lit_13, lit_14, lit_15, lit_16, lit_20, lit_23, lit_24, lit_31, lit_32, lit_39, lit_43, lit_45, lit_47, lit_48, lit_56, lit_57, lit_59, lit_60, lit_62, lit_63, lit_89, lit_92, lit_96, lit_97, lit_99, lit_100, lit_102, lit_103, lit_104, lit_110, lit_111, lit_115, lit_117, lit_194, lit_200, lit_644, lit_736, lit_999, lit_1000, lit_9999, lit_10000, lit_1000000000, ↓wp_mlet, ↓wp_mbp, ↓wp_ite, ↓wp_mix, ↓wp_mdiv, ↓wp_mnz, ↓wp_some, ↓wp_mbnd, ↓mlet_eq, ↓mbp_eq, ↓mbnd_eq, ↓mix_ite, ↓mdiv_ite, ↓mnz_ite, nI_add, nI_mul, nI_nat, nI_ltE, nI_leE, nI_eqE, nI_eqN, nI_Neq, nI_Nlt, nI_Nle, nI_ltN, nI_leN, ↓reduceIte, ↓Nat.reduceEqDiff, and_f, nt_e, nt_t, nl_t, nl_f, ne_t, ne_f, and_self, or_self, or_true, true_or, or_false, false_or, if_true, if_false, and_true, true_and, and_false, false_and, not_true, not_false_iff, e22, eh, eh2, x21, x22, y22, y19]
    · have ep : ¬ pk tx L r.2.1 = nI 43 := by rw [e43]; exact q1
      rw [if_neg q1]
      by_cases q2 : isAt tx L r.2.1 45 = true
      · have l := (isAt_lt q2).1
        have ep2 : pk tx L r.2.1 = nI 45 := by rw [e45]; exact q2
        rw [if_pos q2]
        rw [ep2] at eh eh2
        have g1 : Mst M0 (mup (mup M 12 47 22 (nI 0)) 12 54 (6 * c + 2) (nI 0)) tx L c (pushn 0 (true, r.2)) := num_at (w := false) (k := 2) (v := 0) h (by decide) rfl rfl rfl (fun _ => ⟨q, by omega, rfl⟩)
        have g2 : Mst M0 (mup (mup (mup M 12 47 22 (nI 0)) 12 54 (6 * c + 2) (nI 0)) 12 47 19 (nI (r.2.1 + 1))) tx L c (true, r.2.1 + 1, (pushn 0 (true, r.2)).2.2) := g1.set (by omega) (fun _ => rfl) (by rw [mup_at, if_pos (by decide)]) (by rw [mup_at, if_neg (by decide)]; exact y22 _ _) (fun a b k hab => by rw [mup_at, if_neg (by omega)])
        refine ⟨_, g2, fun K => ?_⟩
        simp (disch := omega) only [lit_0, lit_1, lit_2, lit_3, lit_4, lit_5, lit_6, lit_7, lit_8, lit_9, lit_10, lit_11, lit_12, lit_13, lit_14, lit_15, lit_16, lit_20, lit_23, lit_24, lit_31, lit_32, lit_39, lit_43, lit_45, lit_47, lit_48, lit_56, lit_57, lit_59, lit_60, lit_62, lit_63, lit_89, lit_92, lit_96, lit_97, lit_99, lit_100, lit_102, lit_103, lit_104, lit_110, lit_111, lit_115, lit_117, lit_194, lit_200, lit_644, lit_736, lit_999, lit_1000, lit_9999, lit_10000, lit_1000000000, ↓wp_mlet, ↓wp_mbp, ↓wp_ite, ↓wp_mix, ↓wp_mdiv, ↓wp_mnz, ↓wp_some, ↓wp_mbnd, ↓mlet_eq, ↓mbp_eq, ↓mbnd_eq, ↓mix_ite, ↓mdiv_ite, ↓mnz_ite, nI_add, nI_mul, nI_nat, nI_ltE, nI_leE, nI_eqE, nI_eqN, nI_Neq, nI_Nlt, nI_Nle, nI_ltN, nI_leN, ↓reduceIte, ↓Nat.reduceEqDiff, and_f, nt_e, nt_t, nl_t, nl_f, ne_t, ne_f, and_self, or_self, or_true, true_or, or_false, false_or, if_true, if_false, and_true, true_and, and_false, false_and, not_true, not_false_iff, e22, eh, eh2, x21, x22, y22, y19]
      · have ep2 : ¬ pk tx L r.2.1 = nI 45 := by rw [e45]; exact q2
        rw [if_neg q2]
        have f43 := eq_false ep
        have f45 := eq_false ep2
        have g1 : Mst M0 (mup (mup M 12 47 22 (nI 1)) 12 54 (6 * c + 2) (nI 0)) tx L c (false, r.2) := num_at (w := true) (k := 2) (v := 0) h (by decide) rfl rfl rfl (fun e => (by cases e))
        have g2 : Mst M0 (mup (mup (mup M 12 47 22 (nI 1)) 12 54 (6 * c + 2) (nI 0)) 12 47 19 (nI r.2.1)) tx L c (false, r.2.1, r.2.2) := g1.set t7 (fun e => (by cases e)) (by rw [mup_at, if_pos (by decide)]) (by rw [mup_at, if_neg (by decide)]; exact y22 _ _) (fun a b k hab => by rw [mup_at, if_neg (by omega)])
        refine ⟨_, g2, fun K => ?_⟩
        simp (disch := omega) only [lit_0, lit_1, lit_2, lit_3, lit_4, lit_5, lit_6, lit_7, lit_8, lit_9, lit_10, lit_11, lit_12, lit_13, lit_14, lit_15, lit_16, lit_20, lit_23, lit_24, lit_31, lit_32, lit_39, lit_43, lit_45, lit_47, lit_48, lit_56, lit_57, lit_59, lit_60, lit_62, lit_63, lit_89, lit_92, lit_96, lit_97, lit_99, lit_100, lit_102, lit_103, lit_104, lit_110, lit_111, lit_115, lit_117, lit_194, lit_200, lit_644, lit_736, lit_999, lit_1000, lit_9999, lit_10000, lit_1000000000, ↓wp_mlet, ↓wp_mbp, ↓wp_ite, ↓wp_mix, ↓wp_mdiv, ↓wp_mnz, ↓wp_some, ↓wp_mbnd, ↓mlet_eq, ↓mbp_eq, ↓mbnd_eq, ↓mix_ite, ↓mdiv_ite, ↓mnz_ite, nI_add, nI_mul, nI_nat, nI_ltE, nI_leE, nI_eqE, nI_eqN, nI_Neq, nI_Nlt, nI_Nle, nI_ltN, nI_leN, ↓reduceIte, ↓Nat.reduceEqDiff, and_f, nt_e, nt_t, nl_t, nl_f, ne_t, ne_f, and_self, or_self, or_true, true_or, or_false, false_or, if_true, if_false, and_true, true_and, and_false, false_and, not_true, not_false_iff, e22, eh, f43, f45, x21, x22, y22, y19, Nat.add_zero]
  · have q' : r.1 = false := by simpa using q
    rw [q'] at t6
    have e22 : M 12 47 22 = nI 1 := t6
    rw [dir_no q]
    have g1 : Mst M0 (mup (mup M 12 47 22 (nI 1)) 12 54 (6 * c + 2) (nI 0)) tx L c r := num_at (w := true) (k := 2) (v := 0) h (by decide) rfl q' rfl (fun e => absurd e q)
    have g2 : Mst M0 (mup (mup (mup M 12 47 22 (nI 1)) 12 54 (6 * c + 2) (nI 0)) 12 47 19 (nI r.2.1)) tx L c (false, r.2.1, r.2.2) := g1.set t7 (fun e => (by cases e)) (by rw [mup_at, if_pos (by decide)]) (by rw [mup_at, if_neg (by decide)]; exact y22 _ _) (fun a b k hab => by rw [mup_at, if_neg (by omega)])
    rw [← q'] at g2
    refine ⟨_, g2, fun K => ?_⟩
    simp (disch := omega) only [lit_0, lit_1, lit_2, lit_3, lit_4, lit_5, lit_6, lit_7, lit_8, lit_9, lit_10, lit_11, lit_12, lit_13, lit_14, lit_15, lit_16, lit_20, lit_23, lit_24, lit_31, lit_32, lit_39, lit_43, lit_45, lit_47, lit_48, lit_56, lit_57, lit_59, lit_60, lit_62, lit_63, lit_89, lit_92, lit_96, lit_97, lit_99, lit_100, lit_102, lit_103, lit_104, lit_110, lit_111, lit_115, lit_117, lit_194, lit_200, lit_644, lit_736, lit_999, lit_1000, lit_9999, lit_10000, lit_1000000000, ↓wp_mlet, ↓wp_mbp, ↓wp_ite, ↓wp_mix, ↓wp_mdiv, ↓wp_mnz, ↓wp_some, ↓wp_mbnd, ↓mlet_eq, ↓mbp_eq, ↓mbnd_eq, ↓mix_ite, ↓mdiv_ite, ↓mnz_ite, nI_add, nI_mul, nI_nat, nI_ltE, nI_leE, nI_eqE, nI_eqN, nI_Neq, nI_Nlt, nI_Nle, nI_ltN, nI_leN, ↓reduceIte, ↓Nat.reduceEqDiff, and_f, nt_e, nt_t, nl_t, nl_f, ne_t, ne_f, and_self, or_self, or_true, true_or, or_false, false_or, if_true, if_false, and_true, true_and, and_false, false_and, not_true, not_false_iff, e22, x21, x22, y22, y19, Nat.add_zero]
theorem m_readsGuard {M0 M : Mem} {tx : Nat → Nat} {L c p : Nat} (h : Mst M0 M tx L c (r0 p z0)) : wp (f_X12_readsGuard M) fun _ M1 => Mst M0 M1 tx L c (num tx L 1 (dir tx L (num tx L 1 (lit tx L (mTx.getD 0 []) (r0 p z0))))) := by
  obtain ⟨⟨⟩, M2, e2, h2⟩ := m_num' (k := 1) (m := 1) 0 (by decide) (by decide) (by decide) h (fun _ => rfl)
  have hc2 : (num tx L 1 (lit tx L (mTx.getD 0 []) (r0 p z0))).1 = true → (num tx L 1 (lit tx L (mTx.getD 0 []) (r0 p z0))).2.2.1 = 1 := fun q => by
    rw [(num_ok q).2, lit_cnt]
    rfl
  generalize num tx L 1 (lit tx L (mTx.getD 0 []) (r0 p z0)) = s at h2 hc2
  obtain ⟨M3, h3, k3⟩ := m_dirPart h2 hc2
  obtain ⟨⟨⟩, M4, e4, h4⟩ := m_num' (k := 3) (m := 1) 1 (by decide) (by decide) (by decide) h3 (fun q => by
    obtain ⟨q1, q2⟩ := dir_ok q
    rw [q2, hc2 q1])
  have e1 : mTx.getD 1 [] = [] := rfl
  rw [e1, lit_nil] at h4
  unfold f_X12_readsGuard
  have e2' : f_X12_number 0 1 1 M = some ((), M2) := e2
  have e4' : f_X12_number 1 3 1 M3 = some ((), M4) := e4
  rw [e2', mbnd_eq, k3, e4', mbnd_eq, wp_some]
  exact h4
theorem m_readsSeal {M0 M : Mem} {tx : Nat → Nat} {L c p : Nat} (h : Mst M0 M tx L c (r0 p z0)) : wp (f_X12_readsSeal M) fun _ M1 => Mst M0 M1 tx L c (num tx L 2 (lit tx L [32] (num tx L 2 (lit tx L [32] (num tx L 2 (lit tx L [32] (num tx L 2 (lit tx L (mTx.getD 2 []) (r0 p z0))))))))) := by
  obtain ⟨⟨⟩, M2, e2, h2⟩ := m_num' (k := 1) (m := 2) 2 (by decide) (by decide) (by decide) h (fun _ => rfl)
  have hc2 : (num tx L 2 (lit tx L (mTx.getD 2 []) (r0 p z0))).1 = true → (num tx L 2 (lit tx L (mTx.getD 2 []) (r0 p z0))).2.2.1 = 1 := fun q => by
    rw [(num_ok q).2, lit_cnt]
    rfl
  generalize num tx L 2 (lit tx L (mTx.getD 2 []) (r0 p z0)) = s at h2 hc2
  have nx : ∀ {r : Rdr} {k : Nat}, (r.1 = true → r.2.2.1 = k) → ((num tx L 2 (lit tx L [32] r)).1 = true → (num tx L 2 (lit tx L [32] r)).2.2.1 = k + 1) := fun hh q => by
    obtain ⟨q1, q2⟩ := num_ok q
    rw [q2, lit_cnt, hh (lit_ok1 q1)]
  have e1 : mTx.getD 3 [] = [32] := rfl
  obtain ⟨⟨⟩, M3, e3, h3⟩ := m_num' (k := 2) (m := 2) 3 (by decide) (by decide) (by decide) h2 (fun q => by rw [hc2 q])
  rw [e1] at h3
  have hc3 := nx hc2
  obtain ⟨⟨⟩, M4, e4, h4⟩ := m_num' (k := 3) (m := 2) 3 (by decide) (by decide) (by decide) h3 (fun q => by rw [hc3 q])
  rw [e1] at h4
  have hc4 := nx hc3
  obtain ⟨⟨⟩, M5, e5, h5⟩ := m_num' (k := 4) (m := 2) 3 (by decide) (by decide) (by decide) h4 (fun q => by rw [hc4 q])
  rw [e1] at h5
  unfold f_X12_readsSeal
  generalize hN : (1000 : Nat) = N
  obtain ⟨n, hn⟩ : ∃ n, N = n + 1 + 1 + 1 + 1 := ⟨N - 4, by omega⟩
  have e2' : f_X12_number 2 1 2 M = some ((), M2) := e2
  rw [e2', mbnd_eq, hn]
  have l2 : (2 : Int32) = nI 2 := rfl
  have st : ∀ m k (MA MB : Mem), k < 5 → f_X12_number 3 (nI k) (nI 2) MA = some ((), MB) → ∀ kk, f_X12_readsSeal_L10 (m + 1) (nI k) MA kk = f_X12_readsSeal_L10 m (nI (k + 1)) MB kk := by
    intro m k MA MB hk e kk
    rw [f_X12_readsSeal_L10.eq_2]
    simp (disch := omega) only [lit_0, lit_1, lit_2, lit_3, lit_4, lit_5, lit_6, lit_7, lit_8, lit_9, lit_10, lit_11, lit_12, lit_13, lit_14, lit_15, lit_16, lit_20, lit_23, lit_24, lit_31, lit_32, lit_39, lit_43, lit_45, lit_47, lit_48, lit_56, lit_57, lit_59, lit_60, lit_62, lit_63, lit_89, lit_92, lit_96, lit_97, lit_99, lit_100, lit_102, lit_103, lit_104, lit_110, lit_111, lit_115, lit_117, lit_194, lit_200, lit_644, lit_736, lit_999, lit_1000, lit_9999, lit_10000, lit_1000000000, ↓wp_mlet, ↓wp_mbp, ↓wp_ite, ↓wp_mix, ↓wp_mdiv, ↓wp_mnz, ↓wp_some, ↓wp_mbnd, ↓mlet_eq, ↓mbp_eq, ↓mbnd_eq, ↓mix_ite, ↓mdiv_ite, ↓mnz_ite, nI_add, nI_mul, nI_nat, nI_ltE, nI_leE, nI_eqE, nI_eqN, nI_Neq, nI_Nlt, nI_Nle, nI_ltN, nI_leN, ↓reduceIte, ↓Nat.reduceEqDiff, and_f, nt_e, nt_t, nl_t, nl_f, ne_t, ne_f, and_self, or_self, or_true, true_or, or_false, false_or, if_true, if_false, and_true, true_and, and_false, false_and, not_true, not_false_iff, e]
  rw [l2, st _ 2 M2 M3 (by decide) e3, st _ 3 M3 M4 (by decide) e4, st _ 4 M4 M5 (by decide) e5, f_X12_readsSeal_L10.eq_2, if_pos (show (5 : Int32) ≤ nI (4 + 1) by decide), wp_some]
  exact h5
theorem Mst_told {M0 M : Mem} {tx : Nat → Nat} {L c k : Nat} {r : Rdr} {v : Int32} (h : Mst M0 M tx L c r) (hk : 1 ≤ k ∧ k < 6) (hc : r.1 = true → r.2.2.1 < k) : Mst M0 (mup M 12 54 (6 * c + k) v) tx L c r := by
  obtain ⟨⟨h1, h2, h3⟩, ⟨h4, h5, h6⟩, ⟨h7, h8⟩, h9, h10⟩ := h
  refine ⟨⟨h1, ?_, fun i hi => ?_⟩, ⟨?_, ?_, ?_⟩, ⟨h7, h8⟩, fun hr j hj => ?_, fun a b k' hab => ?_⟩
  · rw [mup_at, if_neg (by omega)]; exact h2
  · rw [mup_at, if_neg (by omega)]; exact h3 i hi
  · rw [mup_at, if_neg (by omega)]; exact h4
  · rw [mup_at, if_neg (by omega)]; exact h5
  · rw [mup_at, if_neg (by omega)]; exact h6
  · have := hc hr
    rw [mup_at, if_neg (by omega)]; exact h9 hr j hj
  · rw [mup_at, if_neg (by omega)]; exact h10 a b k' hab
theorem m_readsWait {M0 M : Mem} {tx : Nat → Nat} {L c p : Nat} (h : Mst M0 M tx L c (r0 p z0)) : wp (f_X12_readsWait M) fun _ M1 => Mst M0 M1 tx L c (if (lit tx L (mTx.getD 4 []) (r0 p z0)).1 = true then frmS tx L [63, 32, 110] (lit tx L (mTx.getD 4 []) (r0 p z0)) else lit tx L (mTx.getD 4 []) (r0 p z0)) := by
  obtain ⟨⟨⟩, M2, e2, h2⟩ := m_says' 4 (by decide) h
  have hc2 : (lit tx L (mTx.getD 4 []) (r0 p z0)).2.2 = (0, z0) := lit_cnt
  have c15 := h.2.2.1.2
  unfold f_X12_readsWait
  generalize lit tx L (mTx.getD 4 []) (r0 p z0) = s at h2 hc2
  have hcz : s.2.2.1 = 0 := by rw [hc2]
  have e21 := h2.2.1.2.1
  have h3 : Mst M0 (mup M2 12 54 (6 * c + 1) (nI 1)) tx L c s := Mst_told h2 (by decide) (fun _ => by omega)
  have x22 : (mup M2 12 54 (6 * c + 1) (nI 1)) 12 47 22 = nI (!s.1).toNat := h3.2.1.2.2
  by_cases q : s.1 = true
  · rw [if_pos q, frm_c, if_pos rfl]
    rw [q] at x22
    have x22' : (mup M2 12 54 (6 * c + 1) (nI 1)) 12 47 22 = nI 0 := x22
    have eh : f_X12_here (nI 0) (mup M2 12 54 (6 * c + 1) (nI 1)) = some (pk tx L s.2.1) := m_here (j := 0) h3 (by decide)
    have e32 := pk_at (tx := tx) (L := L) (p := s.2.1) (c := 32) (fun i hi => (h2.1.2.2 i hi).2) (by decide)
    by_cases q2 : isAt tx L s.2.1 32 = true
    · have ep : pk tx L s.2.1 = nI 32 := by rw [e32]; exact q2
      obtain ⟨⟨⟩, M4, e4, h4⟩ := m_num' (k := 1) (m := 2) 3 (by decide) (by decide) (by decide) h3 (fun _ => by rw [hcz])
      have e1 : mTx.getD 3 [] = [32] := rfl
      rw [e1] at h4
      rw [if_pos q2, frmS_chain _ _ (by decide), chain_c, chain_c, op32, op110]
      simp (disch := omega) only [lit_0, lit_1, lit_2, lit_3, lit_4, lit_5, lit_6, lit_7, lit_8, lit_9, lit_10, lit_11, lit_12, lit_13, lit_14, lit_15, lit_16, lit_20, lit_23, lit_24, lit_31, lit_32, lit_39, lit_43, lit_45, lit_47, lit_48, lit_56, lit_57, lit_59, lit_60, lit_62, lit_63, lit_89, lit_92, lit_96, lit_97, lit_99, lit_100, lit_102, lit_103, lit_104, lit_110, lit_111, lit_115, lit_117, lit_194, lit_200, lit_644, lit_736, lit_999, lit_1000, lit_9999, lit_10000, lit_1000000000, ↓wp_mlet, ↓wp_mbp, ↓wp_ite, ↓wp_mix, ↓wp_mdiv, ↓wp_mnz, ↓wp_some, ↓wp_mbnd, ↓mlet_eq, ↓mbp_eq, ↓mbnd_eq, ↓mix_ite, ↓mdiv_ite, ↓mnz_ite, nI_add, nI_mul, nI_nat, nI_ltE, nI_leE, nI_eqE, nI_eqN, nI_Neq, nI_Nlt, nI_Nle, nI_ltN, nI_leN, ↓reduceIte, ↓Nat.reduceEqDiff, and_f, nt_e, nt_t, nl_t, nl_f, ne_t, ne_f, and_self, or_self, or_true, true_or, or_false, false_or, if_true, if_false, and_true, true_and, and_false, false_and, not_true, not_false_iff, e2, e21, x22', eh, ep, e4]
      exact h4
    · have ep : ¬ pk tx L s.2.1 = nI 32 := by rw [e32]; exact q2
      have f32 := eq_false ep
      rw [if_neg q2]
      simp (disch := omega) only [lit_0, lit_1, lit_2, lit_3, lit_4, lit_5, lit_6, lit_7, lit_8, lit_9, lit_10, lit_11, lit_12, lit_13, lit_14, lit_15, lit_16, lit_20, lit_23, lit_24, lit_31, lit_32, lit_39, lit_43, lit_45, lit_47, lit_48, lit_56, lit_57, lit_59, lit_60, lit_62, lit_63, lit_89, lit_92, lit_96, lit_97, lit_99, lit_100, lit_102, lit_103, lit_104, lit_110, lit_111, lit_115, lit_117, lit_194, lit_200, lit_644, lit_736, lit_999, lit_1000, lit_9999, lit_10000, lit_1000000000, ↓wp_mlet, ↓wp_mbp, ↓wp_ite, ↓wp_mix, ↓wp_mdiv, ↓wp_mnz, ↓wp_some, ↓wp_mbnd, ↓mlet_eq, ↓mbp_eq, ↓mbnd_eq, ↓mix_ite, ↓mdiv_ite, ↓mnz_ite, nI_add, nI_mul, nI_nat, nI_ltE, nI_leE, nI_eqE, nI_eqN, nI_Neq, nI_Nlt, nI_Nle, nI_ltN, nI_leN, ↓reduceIte, ↓Nat.reduceEqDiff, and_f, nt_e, nt_t, nl_t, nl_f, ne_t, ne_f, and_self, or_self, or_true, true_or, or_false, false_or, if_true, if_false, and_true, true_and, and_false, false_and, not_true, not_false_iff, e2, e21, x22', eh, f32]
      obtain ⟨⟨t1, t2, t3⟩, ⟨t4, t5, t6⟩, ⟨t7, t8⟩, t9, t10⟩ := h3
      refine ⟨⟨t1, t2, t3⟩, ⟨t4, t5, t6⟩, ⟨t7, t8⟩, fun _ j hj => ?_, t10⟩
      have hj' : j < s.2.2.1 + 1 := hj
      obtain rfl : j = 0 := by omega
      show _ = nI (if 0 = s.2.2.1 then 1 else s.2.2.2 0)
      rw [if_pos hcz.symm, mup_at, if_pos (by omega)]
  · rw [if_neg q]
    have q' : s.1 = false := by simpa using q
    rw [q'] at x22
    have x22' : (mup M2 12 54 (6 * c + 1) (nI 1)) 12 47 22 = nI 1 := x22
    simp (disch := omega) only [lit_0, lit_1, lit_2, lit_3, lit_4, lit_5, lit_6, lit_7, lit_8, lit_9, lit_10, lit_11, lit_12, lit_13, lit_14, lit_15, lit_16, lit_20, lit_23, lit_24, lit_31, lit_32, lit_39, lit_43, lit_45, lit_47, lit_48, lit_56, lit_57, lit_59, lit_60, lit_62, lit_63, lit_89, lit_92, lit_96, lit_97, lit_99, lit_100, lit_102, lit_103, lit_104, lit_110, lit_111, lit_115, lit_117, lit_194, lit_200, lit_644, lit_736, lit_999, lit_1000, lit_9999, lit_10000, lit_1000000000, ↓wp_mlet, ↓wp_mbp, ↓wp_ite, ↓wp_mix, ↓wp_mdiv, ↓wp_mnz, ↓wp_some, ↓wp_mbnd, ↓mlet_eq, ↓mbp_eq, ↓mbnd_eq, ↓mix_ite, ↓mdiv_ite, ↓mnz_ite, nI_add, nI_mul, nI_nat, nI_ltE, nI_leE, nI_eqE, nI_eqN, nI_Neq, nI_Nlt, nI_Nle, nI_ltN, nI_leN, ↓reduceIte, ↓Nat.reduceEqDiff, and_f, nt_e, nt_t, nl_t, nl_f, ne_t, ne_f, and_self, or_self, or_true, true_or, or_false, false_or, if_true, if_false, and_true, true_and, and_false, false_and, not_true, not_false_iff, e2, e21, x22']
    exact h3
def codeW (w : Nat) : Nat := if w = 0 then 104 else if w = 1 then 115 else if w = 2 then 215 else if w = 3 then 103 else if w = 4 then 98 else if w = 5 then 111 else if w = 6 then 99 else if w = 7 then 203 else if w = 8 then 116 else if w = 9 then 204 else 119
/-- what the model has of command c -/
def RecM (M : Mem) (tx : Nat → Nat) (L p c : Nat) : Prop := ∃ w, wsel tx L p = some w ∧ w < 11 ∧ M 12 54 (6 * c) = nI (codeW w) ∧ ∀ j, j < (cmdS tx L p z0).2.2.1 → M 12 54 (6 * c + 1 + j) = nI ((cmdS tx L p z0).2.2.2 j)
def TxM (M : Mem) (tx : Nat → Nat) (L : Nat) : Prop := L ≤ 60 ∧ M 12 47 20 = nI L ∧ ∀ i, i < L → M 12 53 i = nI (tx i) ∧ tx i < 65536
def ROm (M M1 : Mem) (tx : Nat → Nat) (L p c : Nat) : Prop := TxM M1 tx L ∧ (M1 12 47 19 = nI (cmdS tx L p z0).2.1 ∧ M1 12 47 21 = nI (c + 1) ∧ M1 12 47 22 = nI (!(cmdS tx L p z0).1).toNat) ∧ (cmdS tx L p z0).2.1 ≤ L ∧ ((cmdS tx L p z0).1 = true → RecM M1 tx L p c) ∧ ∀ a b k, ¬ (a = 12 ∧ (b = 47 ∧ (k = 19 ∨ k = 21 ∨ k = 22) ∨ b = 54 ∧ 6 * c ≤ k ∧ k < 6 * c + 6)) → M1 a b k = M a b k
theorem ro_end {M M1 : Mem} {tx : Nat → Nat} {L p c w : Nat} {r : Rdr} (hw : wsel tx L p = some w) (hr : cmdS tx L p z0 = r) (h : Mst (mup M 12 54 (6 * c) (nI (codeW w))) M1 tx L c r) : ROm M (mup M1 12 47 21 (nI (c + 1))) tx L p c := by
  subst hr
  obtain ⟨⟨h1, h2, h3⟩, ⟨h4, h5, h6⟩, ⟨h7, h8⟩, h9, h10⟩ := h
  refine ⟨⟨h1, ?_, fun i hi => ?_⟩, ⟨?_, ?_, ?_⟩, h7, fun hh => ⟨w, hw, (rwS_sel.1 w hw).1, ?_, fun j hj => ?_⟩, fun a b k hab => ?_⟩
  · rw [mup_at, if_neg (by decide)]; exact h2
  · rw [mup_at, if_neg (by omega)]; exact h3 i hi
  · rw [mup_at, if_neg (by decide)]; exact h4
  · rw [mup_at, if_pos (by decide)]
  · rw [mup_at, if_neg (by decide)]; exact h6
  · rw [mup_at, if_neg (by omega), h10 12 54 _ (by omega), mup_at, if_pos (by omega)]
  · rw [mup_at, if_neg (by omega)]; exact h9 hh j hj
  · rw [mup_at, if_neg (by omega), h10 a b k (by omega), mup_at, if_neg (by omega)]
theorem m_other {M : Mem} {a b : Int32} (e1 : f_X12_here (1 : Int32) M = some b) (K : Int32 → Option (Unit × Mem)) : (mlet K fun k59_16 => (mlet (fun (_u : Unit) => (k59_16 (1 : Int32))) fun k54_14 => (mlet (fun (_u : Unit) => (mlet (fun (_u : Unit) => (mlet (fun (_u : Unit) => (k59_16 (0 : Int32))) fun k58_13 => (if a = (103 : Int32) then (mbp (f_X12_here (1 : Int32) M) fun r11 => (if r11 = (117 : Int32) then (k54_14 ()) else (k58_13 ()))) else (k58_13 ())))) fun k38_9 => (if a = (115 : Int32) then (mbp (f_X12_here (1 : Int32) M) fun r7 => (if r7 = (104 : Int32) then (k54_14 ()) else (k38_9 ()))) else (k38_9 ())))) fun k22_5 => (if a = (104 : Int32) then (mbp (f_X12_here (1 : Int32) M) fun r3 => (if r3 = (117 : Int32) then (k54_14 ()) else (k22_5 ()))) else (k22_5 ()))))) = K (if (a = 104 ∧ b = 117) ∨ (a = 115 ∧ b = 104) ∨ (a = 103 ∧ b = 117) then 1 else 0) := by
  simp only [mlet_eq, e1, mbp_eq]
  by_cases h1 : a = 104
  · subst h1
    by_cases h4 : b = 117
    · subst h4; rfl
    · rw [if_pos rfl, if_neg h4, if_neg (by decide), if_neg (by decide), if_neg (by simp [h4])]
  · rw [if_neg h1]
    by_cases h2 : a = 115
    · subst h2
      by_cases h5 : b = 104
      · subst h5; rfl
      · rw [if_pos rfl, if_neg h5, if_neg (by decide), if_neg (by simp [h5])]
    · rw [if_neg h2]
      by_cases h3 : a = 103
      · subst h3
        by_cases h4 : b = 117
        · subst h4; rfl
        · rw [if_pos rfl, if_neg h4, if_neg (by simp [h4])]
      · rw [if_neg h3, if_neg (by simp [h1, h2, h3])]
theorem m_readsOne {M : Mem} {tx : Nat → Nat} {L p c : Nat} (h : Mst M M tx L c (r0 p z0)) : wp (f_X12_readsOne M) fun _ M1 => ROm M M1 tx L p c := by
  have h' := h
  obtain ⟨⟨t1, t2, t3⟩, ⟨t4, t5, t6⟩, ⟨t7, t8⟩, t9, t10⟩ := h'
  have eh0 : f_X12_here (nI 0) M = some (pk tx L p) := m_here (j := 0) h (by decide)
  have eh1 : f_X12_here (nI 1) M = some (pk tx L (p + 1)) := m_here (j := 1) h (by decide)
  have at' : ∀ q k, k < 65536 → (pk tx L q = nI k) = (isAt tx L q (nI k) = true) := fun q k hk => pk_at (fun i hi => (t3 i hi).2) hk
  have l98 : (98 : Int32) = nI 98 := rfl
  have l116 : (116 : Int32) = nI 116 := rfl
  have l119 : (119 : Int32) = nI 119 := rfl
  have M20 : ∀ v, Mst (mup M 12 54 (6 * c) v) (mup M 12 54 (6 * c) v) tx L c (r0 p z0) := fun v => ⟨⟨t1, by rw [mup_at, if_neg (by omega)]; exact t2, fun i hi => by rw [mup_at, if_neg (by omega)]; exact t3 i hi⟩, ⟨by rw [mup_at, if_neg (by omega)]; exact t4, by rw [mup_at, if_neg (by omega)]; exact t5, by rw [mup_at, if_neg (by omega)]; exact t6⟩, ⟨t7, t8⟩, fun _ j hj => absurd hj (Nat.not_lt_zero _), fun _ _ _ _ => rfl⟩
  have eh0' : f_X12_here (0 : Int32) M = some (pk tx L p) := eh0
  have eh1' : f_X12_here (1 : Int32) M = some (pk tx L (p + 1)) := eh1
  unfold f_X12_readsOne
  rw [eh0', mbp_eq, m_other eh1']
  have cond : ((pk tx L p = 104 ∧ pk tx L (p + 1) = 117) ∨ (pk tx L p = 115 ∧ pk tx L (p + 1) = 104) ∨ (pk tx L p = 103 ∧ pk tx L (p + 1) = 117)) ↔ ((isAt tx L p 104 = true ∧ isAt tx L (p + 1) 117 = true) ∨ (isAt tx L p 115 = true ∧ isAt tx L (p + 1) 104 = true) ∨ (isAt tx L p 103 = true ∧ isAt tx L (p + 1) 117 = true)) := by
    rw [show (pk tx L p = 104) = (isAt tx L p 104 = true) from at' p 104 (by decide), show (pk tx L p = 115) = (isAt tx L p 115 = true) from at' p 115 (by decide), show (pk tx L p = 103) = (isAt tx L p 103 = true) from at' p 103 (by decide), show (pk tx L (p + 1) = 117) = (isAt tx L (p + 1) 117 = true) from at' (p + 1) 117 (by decide), show (pk tx L (p + 1) = 104) = (isAt tx L (p + 1) 104 = true) from at' (p + 1) 104 (by decide)]
  have ne : ∀ {a b : Int32} {q : Nat}, a ≠ b → isAt tx L q a = true → ¬ isAt tx L q b = true := fun hab h1 h2 => hab (isAt_inj h1 h2)
  have x0 : ∀ w, wsel tx L p = some w → ((w = 9 ∨ w = 2 ∨ w = 7) → ((isAt tx L p 104 = true ∧ isAt tx L (p + 1) 117 = true) ∨ (isAt tx L p 115 = true ∧ isAt tx L (p + 1) 104 = true) ∨ (isAt tx L p 103 = true ∧ isAt tx L (p + 1) 117 = true))) ∧ (¬ (w = 9 ∨ w = 2 ∨ w = 7) → ¬ ((isAt tx L p 104 = true ∧ isAt tx L (p + 1) 117 = true) ∨ (isAt tx L p 115 = true ∧ isAt tx L (p + 1) 104 = true) ∨ (isAt tx L p 103 = true ∧ isAt tx L (p + 1) 117 = true))) := by
    intro w
    unfold wsel
    by_cases q1 : isAt tx L p 104 = true
    · have n1 := ne (show (104 : Int32) ≠ 115 by decide) q1
      have n2 := ne (show (104 : Int32) ≠ 103 by decide) q1
      rw [if_pos q1]
      by_cases q2 : isAt tx L (p + 1) 117 = true
      · rw [if_pos q2]
        intro e
        cases e
        exact ⟨fun _ => Or.inl ⟨q1, q2⟩, fun e => absurd (Or.inl rfl) e⟩
      · rw [if_neg q2]
        intro e
        cases e
        exact ⟨fun e => by omega, fun _ hh => hh.elim (fun h => q2 h.2) (fun h => h.elim (fun h => n1 h.1) (fun h => n2 h.1))⟩
    · rw [if_neg q1]
      by_cases q3 : isAt tx L p 115 = true
      · have n2 := ne (show (115 : Int32) ≠ 103 by decide) q3
        rw [if_pos q3]
        by_cases q2 : isAt tx L (p + 1) 104 = true
        · rw [if_pos q2]
          intro e
          cases e
          exact ⟨fun _ => Or.inr (Or.inl ⟨q3, q2⟩), fun e => absurd (Or.inr (Or.inl rfl)) e⟩
        · rw [if_neg q2]
          intro e
          cases e
          exact ⟨fun e => by omega, fun _ hh => hh.elim (fun h => q1 h.1) (fun h => h.elim (fun h => q2 h.2) (fun h => n2 h.1))⟩
      · rw [if_neg q3]
        by_cases q4 : isAt tx L p 103 = true
        · rw [if_pos q4]
          by_cases q2 : isAt tx L (p + 1) 117 = true
          · rw [if_pos q2]
            intro e
            cases e
            exact ⟨fun _ => Or.inr (Or.inr ⟨q4, q2⟩), fun e => absurd (Or.inr (Or.inr rfl)) e⟩
          · rw [if_neg q2]
            intro e
            cases e
            exact ⟨fun e => by omega, fun _ hh => hh.elim (fun h => q1 h.1) (fun h => h.elim (fun h => q3 h.1) (fun h => q2 h.2))⟩
        · rw [if_neg q4]
          intro e
          refine ⟨fun e2 => ?_, fun _ hh => hh.elim (fun h => q1 h.1) (fun h => h.elim (fun h => q3 h.1) (fun h => q4 h.1))⟩
          exfalso
          have e3 : w = 4 ∨ w = 5 ∨ w = 6 ∨ w = 8 ∨ w = 10 := by
            split at e
            · cases e; decide
            split at e
            · cases e; decide
            split at e
            · cases e; decide
            split at e
            · cases e; decide
            split at e
            · cases e; decide
            · cases e
          omega
  have x15 : ∀ w, wsel tx L p = some w → ((w = 9 ∨ w = 2 ∨ w = 7) → (if ((pk tx L p = 104 ∧ pk tx L (p + 1) = 117) ∨ (pk tx L p = 115 ∧ pk tx L (p + 1) = 104) ∨ (pk tx L p = 103 ∧ pk tx L (p + 1) = 117)) then (1 : Int32) else 0) = nI 1) ∧ (¬ (w = 9 ∨ w = 2 ∨ w = 7) → (if ((pk tx L p = 104 ∧ pk tx L (p + 1) = 117) ∨ (pk tx L p = 115 ∧ pk tx L (p + 1) = 104) ∨ (pk tx L p = 103 ∧ pk tx L (p + 1) = 117)) then (1 : Int32) else 0) = nI 0) := fun w hw => ⟨fun h => if_pos (cond.mpr ((x0 w hw).1 h)), fun h => if_neg (fun q => (x0 w hw).2 h (cond.mp q))⟩
  by_cases q_h : isAt tx L p 104 = true
  · have e0 : pk tx L p = nI 104 := by rw [at' p 104 (by decide)]; exact q_h
    by_cases r : isAt tx L (p + 1) 117 = true
    · have e1 : pk tx L (p + 1) = nI 117 := by rw [at' (p + 1) 117 (by decide)]; exact r
      have hw : wsel tx L p = some 9 := by unfold wsel; rw [if_pos q_h, if_pos r]
      have x15' := (x15 9 hw).1 (by decide)
      rw [x15']
      obtain ⟨⟨⟩, M2, e2, h2⟩ := m_num' (k := 1) (m := 1) 5 (by decide) (by decide) (by decide) (M20 (nI (codeW 9))) (fun _ => rfl)
      obtain ⟨⟨⟩, M3, e3, h3⟩ := m_num' (k := 2) (m := 1) 3 (by decide) (by decide) (by decide) h2 (fun q => by rw [(num_ok q).2, lit_cnt]; rfl)
      have x21 := h3.2.1.2.1
      have ec : codeW 9 = 204 := rfl
      rw [ec] at e2
      simp (disch := omega) only [lit_0, lit_1, lit_2, lit_3, lit_4, lit_5, lit_6, lit_7, lit_8, lit_9, lit_10, lit_11, lit_12, lit_13, lit_14, lit_15, lit_16, lit_20, lit_23, lit_24, lit_31, lit_32, lit_39, lit_43, lit_45, lit_47, lit_48, lit_56, lit_57, lit_59, lit_60, lit_62, lit_63, lit_89, lit_92, lit_96, lit_97, lit_99, lit_100, lit_102, lit_103, lit_104, lit_110, lit_111, lit_115, lit_117, lit_194, lit_200, lit_644, lit_736, lit_999, lit_1000, lit_9999, lit_10000, lit_1000000000, ↓wp_mlet, ↓wp_mbp, ↓wp_ite, ↓wp_mix, ↓wp_mdiv, ↓wp_mnz, ↓wp_some, ↓wp_mbnd, ↓mlet_eq, ↓mbp_eq, ↓mbnd_eq, ↓mix_ite, ↓mdiv_ite, ↓mnz_ite, nI_add, nI_mul, nI_nat, nI_ltE, nI_leE, nI_eqE, nI_eqN, nI_Neq, nI_Nlt, nI_Nle, nI_ltN, nI_leN, ↓reduceIte, ↓Nat.reduceEqDiff, and_f, nt_e, nt_t, nl_t, nl_f, ne_t, ne_f, and_self, or_self, or_true, true_or, or_false, false_or, if_true, if_false, and_true, true_and, and_false, false_and, not_true, not_false_iff, e0, t5, l98, l116, l119, e2, e3, x21]
      exact ro_end (w := 9) hw (by
        rw [cmd_chain hw (by decide), show frm 9 = [32, 100, 32, 100] from rfl, chain_c, chain_c, chain_c, chain_c]
        simp only [op32, op100, op110, op115]
        rw [show mTx.getD 5 [] = ltr 9 ++ [32] from rfl, lit_app]
        rw [show mTx.getD 3 [] = [32] from rfl]
        rfl) h3
    · have e1 : (pk tx L (p + 1) = nI 117) = False := eq_false (by rw [at' (p + 1) 117 (by decide)]; exact r)
      have hw : wsel tx L p = some 0 := by unfold wsel; rw [if_pos q_h, if_neg r]
      have x15' := (x15 0 hw).2 (by decide)
      rw [x15']
      obtain ⟨⟨⟩, M2, e2, h2⟩ := m_says' 6 (by decide) (M20 (nI (codeW 0)))
      have x21 := h2.2.1.2.1
      have ec : codeW 0 = 104 := rfl
      rw [ec] at e2
      simp (disch := omega) only [lit_0, lit_1, lit_2, lit_3, lit_4, lit_5, lit_6, lit_7, lit_8, lit_9, lit_10, lit_11, lit_12, lit_13, lit_14, lit_15, lit_16, lit_20, lit_23, lit_24, lit_31, lit_32, lit_39, lit_43, lit_45, lit_47, lit_48, lit_56, lit_57, lit_59, lit_60, lit_62, lit_63, lit_89, lit_92, lit_96, lit_97, lit_99, lit_100, lit_102, lit_103, lit_104, lit_110, lit_111, lit_115, lit_117, lit_194, lit_200, lit_644, lit_736, lit_999, lit_1000, lit_9999, lit_10000, lit_1000000000, ↓wp_mlet, ↓wp_mbp, ↓wp_ite, ↓wp_mix, ↓wp_mdiv, ↓wp_mnz, ↓wp_some, ↓wp_mbnd, ↓mlet_eq, ↓mbp_eq, ↓mbnd_eq, ↓mix_ite, ↓mdiv_ite, ↓mnz_ite, nI_add, nI_mul, nI_nat, nI_ltE, nI_leE, nI_eqE, nI_eqN, nI_Neq, nI_Nlt, nI_Nle, nI_ltN, nI_leN, ↓reduceIte, ↓Nat.reduceEqDiff, and_f, nt_e, nt_t, nl_t, nl_f, ne_t, ne_f, and_self, or_self, or_true, true_or, or_false, false_or, if_true, if_false, and_true, true_and, and_false, false_and, not_true, not_false_iff, e0, t5, l98, l116, l119, e2, x21]
      exact ro_end (w := 0) hw (by
        rw [cmd_chain hw (by decide), show frm 0 = [] from rfl]
        rfl) h2
  by_cases q_s : isAt tx L p 115 = true
  · have e0 : pk tx L p = nI 115 := by rw [at' p 115 (by decide)]; exact q_s
    by_cases r : isAt tx L (p + 1) 104 = true
    · have e1 : pk tx L (p + 1) = nI 104 := by rw [at' (p + 1) 104 (by decide)]; exact r
      have hw : wsel tx L p = some 2 := by unfold wsel; rw [if_neg q_h, if_pos q_s, if_pos r]
      have x15' := (x15 2 hw).1 (by decide)
      rw [x15']
      obtain ⟨⟨⟩, M2, e2, h2⟩ := m_num' (k := 1) (m := 1) 7 (by decide) (by decide) (by decide) (M20 (nI (codeW 2))) (fun _ => rfl)
      obtain ⟨⟨⟩, M3, e3, h3⟩ := m_num' (k := 2) (m := 2) 3 (by decide) (by decide) (by decide) h2 (fun q => by rw [(num_ok q).2, lit_cnt]; rfl)
      have x21 := h3.2.1.2.1
      have ec : codeW 2 = 215 := rfl
      rw [ec] at e2
      simp (disch := omega) only [lit_0, lit_1, lit_2, lit_3, lit_4, lit_5, lit_6, lit_7, lit_8, lit_9, lit_10, lit_11, lit_12, lit_13, lit_14, lit_15, lit_16, lit_20, lit_23, lit_24, lit_31, lit_32, lit_39, lit_43, lit_45, lit_47, lit_48, lit_56, lit_57, lit_59, lit_60, lit_62, lit_63, lit_89, lit_92, lit_96, lit_97, lit_99, lit_100, lit_102, lit_103, lit_104, lit_110, lit_111, lit_115, lit_117, lit_194, lit_200, lit_644, lit_736, lit_999, lit_1000, lit_9999, lit_10000, lit_1000000000, ↓wp_mlet, ↓wp_mbp, ↓wp_ite, ↓wp_mix, ↓wp_mdiv, ↓wp_mnz, ↓wp_some, ↓wp_mbnd, ↓mlet_eq, ↓mbp_eq, ↓mbnd_eq, ↓mix_ite, ↓mdiv_ite, ↓mnz_ite, nI_add, nI_mul, nI_nat, nI_ltE, nI_leE, nI_eqE, nI_eqN, nI_Neq, nI_Nlt, nI_Nle, nI_ltN, nI_leN, ↓reduceIte, ↓Nat.reduceEqDiff, and_f, nt_e, nt_t, nl_t, nl_f, ne_t, ne_f, and_self, or_self, or_true, true_or, or_false, false_or, if_true, if_false, and_true, true_and, and_false, false_and, not_true, not_false_iff, e0, t5, l98, l116, l119, e2, e3, x21]
      exact ro_end (w := 2) hw (by
        rw [cmd_chain hw (by decide), show frm 2 = [32, 100, 32, 110] from rfl, chain_c, chain_c, chain_c, chain_c]
        simp only [op32, op100, op110, op115]
        rw [show mTx.getD 7 [] = ltr 2 ++ [32] from rfl, lit_app]
        rw [show mTx.getD 3 [] = [32] from rfl]
        rfl) h3
    · have e1 : (pk tx L (p + 1) = nI 104) = False := eq_false (by rw [at' (p + 1) 104 (by decide)]; exact r)
      have hw : wsel tx L p = some 1 := by unfold wsel; rw [if_neg q_h, if_pos q_s, if_neg r]
      have x15' := (x15 1 hw).2 (by decide)
      rw [x15']
      obtain ⟨⟨⟩, M2, e2, h2⟩ := m_readsSeal (M20 (nI (codeW 1)))
      have x21 := h2.2.1.2.1
      have ec : codeW 1 = 115 := rfl
      rw [ec] at e2
      simp (disch := omega) only [lit_0, lit_1, lit_2, lit_3, lit_4, lit_5, lit_6, lit_7, lit_8, lit_9, lit_10, lit_11, lit_12, lit_13, lit_14, lit_15, lit_16, lit_20, lit_23, lit_24, lit_31, lit_32, lit_39, lit_43, lit_45, lit_47, lit_48, lit_56, lit_57, lit_59, lit_60, lit_62, lit_63, lit_89, lit_92, lit_96, lit_97, lit_99, lit_100, lit_102, lit_103, lit_104, lit_110, lit_111, lit_115, lit_117, lit_194, lit_200, lit_644, lit_736, lit_999, lit_1000, lit_9999, lit_10000, lit_1000000000, ↓wp_mlet, ↓wp_mbp, ↓wp_ite, ↓wp_mix, ↓wp_mdiv, ↓wp_mnz, ↓wp_some, ↓wp_mbnd, ↓mlet_eq, ↓mbp_eq, ↓mbnd_eq, ↓mix_ite, ↓mdiv_ite, ↓mnz_ite, nI_add, nI_mul, nI_nat, nI_ltE, nI_leE, nI_eqE, nI_eqN, nI_Neq, nI_Nlt, nI_Nle, nI_ltN, nI_leN, ↓reduceIte, ↓Nat.reduceEqDiff, and_f, nt_e, nt_t, nl_t, nl_f, ne_t, ne_f, and_self, or_self, or_true, true_or, or_false, false_or, if_true, if_false, and_true, true_and, and_false, false_and, not_true, not_false_iff, e0, t5, l98, l116, l119, e2, x21]
      exact ro_end (w := 1) hw (by
        rw [cmd_chain hw (by decide), show frm 1 = [32, 110, 32, 110, 32, 110, 32, 110] from rfl, chain_c, chain_c, chain_c, chain_c, chain_c, chain_c, chain_c, chain_c]
        simp only [op32, op100, op110, op115]
        rw [show mTx.getD 2 [] = ltr 1 ++ [32] from rfl, lit_app]
        rfl) h2
  by_cases q_g : isAt tx L p 103 = true
  · have e0 : pk tx L p = nI 103 := by rw [at' p 103 (by decide)]; exact q_g
    by_cases r : isAt tx L (p + 1) 117 = true
    · have e1 : pk tx L (p + 1) = nI 117 := by rw [at' (p + 1) 117 (by decide)]; exact r
      have hw : wsel tx L p = some 7 := by unfold wsel; rw [if_neg q_h, if_neg q_s, if_pos q_g, if_pos r]
      have x15' := (x15 7 hw).1 (by decide)
      rw [x15']
      obtain ⟨⟨⟩, M2, e2, h2⟩ := m_readsGuard (M20 (nI (codeW 7)))
      have x21 := h2.2.1.2.1
      have ec : codeW 7 = 203 := rfl
      rw [ec] at e2
      simp (disch := omega) only [lit_0, lit_1, lit_2, lit_3, lit_4, lit_5, lit_6, lit_7, lit_8, lit_9, lit_10, lit_11, lit_12, lit_13, lit_14, lit_15, lit_16, lit_20, lit_23, lit_24, lit_31, lit_32, lit_39, lit_43, lit_45, lit_47, lit_48, lit_56, lit_57, lit_59, lit_60, lit_62, lit_63, lit_89, lit_92, lit_96, lit_97, lit_99, lit_100, lit_102, lit_103, lit_104, lit_110, lit_111, lit_115, lit_117, lit_194, lit_200, lit_644, lit_736, lit_999, lit_1000, lit_9999, lit_10000, lit_1000000000, ↓wp_mlet, ↓wp_mbp, ↓wp_ite, ↓wp_mix, ↓wp_mdiv, ↓wp_mnz, ↓wp_some, ↓wp_mbnd, ↓mlet_eq, ↓mbp_eq, ↓mbnd_eq, ↓mix_ite, ↓mdiv_ite, ↓mnz_ite, nI_add, nI_mul, nI_nat, nI_ltE, nI_leE, nI_eqE, nI_eqN, nI_Neq, nI_Nlt, nI_Nle, nI_ltN, nI_leN, ↓reduceIte, ↓Nat.reduceEqDiff, and_f, nt_e, nt_t, nl_t, nl_f, ne_t, ne_f, and_self, or_self, or_true, true_or, or_false, false_or, if_true, if_false, and_true, true_and, and_false, false_and, not_true, not_false_iff, e0, t5, l98, l116, l119, e2, x21]
      exact ro_end (w := 7) hw (by
        rw [cmd_chain hw (by decide), show frm 7 = [32, 100, 115, 100] from rfl, chain_c, chain_c, chain_c, chain_c]
        simp only [op32, op100, op110, op115]
        rw [show mTx.getD 0 [] = ltr 7 ++ [32] from rfl, lit_app]
        rfl) h2
    · have e1 : (pk tx L (p + 1) = nI 117) = False := eq_false (by rw [at' (p + 1) 117 (by decide)]; exact r)
      have hw : wsel tx L p = some 3 := by unfold wsel; rw [if_neg q_h, if_neg q_s, if_pos q_g, if_neg r]
      have x15' := (x15 3 hw).2 (by decide)
      rw [x15']
      obtain ⟨⟨⟩, M2, e2, h2⟩ := m_num' (k := 1) (m := 1) 8 (by decide) (by decide) (by decide) (M20 (nI (codeW 3))) (fun _ => rfl)
      have x21 := h2.2.1.2.1
      have ec : codeW 3 = 103 := rfl
      rw [ec] at e2
      simp (disch := omega) only [lit_0, lit_1, lit_2, lit_3, lit_4, lit_5, lit_6, lit_7, lit_8, lit_9, lit_10, lit_11, lit_12, lit_13, lit_14, lit_15, lit_16, lit_20, lit_23, lit_24, lit_31, lit_32, lit_39, lit_43, lit_45, lit_47, lit_48, lit_56, lit_57, lit_59, lit_60, lit_62, lit_63, lit_89, lit_92, lit_96, lit_97, lit_99, lit_100, lit_102, lit_103, lit_104, lit_110, lit_111, lit_115, lit_117, lit_194, lit_200, lit_644, lit_736, lit_999, lit_1000, lit_9999, lit_10000, lit_1000000000, ↓wp_mlet, ↓wp_mbp, ↓wp_ite, ↓wp_mix, ↓wp_mdiv, ↓wp_mnz, ↓wp_some, ↓wp_mbnd, ↓mlet_eq, ↓mbp_eq, ↓mbnd_eq, ↓mix_ite, ↓mdiv_ite, ↓mnz_ite, nI_add, nI_mul, nI_nat, nI_ltE, nI_leE, nI_eqE, nI_eqN, nI_Neq, nI_Nlt, nI_Nle, nI_ltN, nI_leN, ↓reduceIte, ↓Nat.reduceEqDiff, and_f, nt_e, nt_t, nl_t, nl_f, ne_t, ne_f, and_self, or_self, or_true, true_or, or_false, false_or, if_true, if_false, and_true, true_and, and_false, false_and, not_true, not_false_iff, e0, t5, l98, l116, l119, e2, x21]
      exact ro_end (w := 3) hw (by
        rw [cmd_chain hw (by decide), show frm 3 = [32, 100] from rfl, chain_c, chain_c]
        simp only [op32, op100, op110, op115]
        rw [show mTx.getD 8 [] = ltr 3 ++ [32] from rfl, lit_app]
        rfl) h2
  by_cases q_b : isAt tx L p 98 = true
  · have e0 : pk tx L p = nI 98 := by rw [at' p 98 (by decide)]; exact q_b
    have hw : wsel tx L p = some 4 := by unfold wsel; rw [if_neg q_h, if_neg q_s, if_neg q_g, if_pos q_b]
    have x15' := (x15 4 hw).2 (by decide)
    rw [x15']
    obtain ⟨⟨⟩, M2, e2, h2⟩ := m_num' (k := 1) (m := 1) 9 (by decide) (by decide) (by decide) (M20 (nI (codeW 4))) (fun _ => rfl)
    have x21 := h2.2.1.2.1
    have ec : codeW 4 = 98 := rfl
    rw [ec] at e2
    simp (disch := omega) only [lit_0, lit_1, lit_2, lit_3, lit_4, lit_5, lit_6, lit_7, lit_8, lit_9, lit_10, lit_11, lit_12, lit_13, lit_14, lit_15, lit_16, lit_20, lit_23, lit_24, lit_31, lit_32, lit_39, lit_43, lit_45, lit_47, lit_48, lit_56, lit_57, lit_59, lit_60, lit_62, lit_63, lit_89, lit_92, lit_96, lit_97, lit_99, lit_100, lit_102, lit_103, lit_104, lit_110, lit_111, lit_115, lit_117, lit_194, lit_200, lit_644, lit_736, lit_999, lit_1000, lit_9999, lit_10000, lit_1000000000, ↓wp_mlet, ↓wp_mbp, ↓wp_ite, ↓wp_mix, ↓wp_mdiv, ↓wp_mnz, ↓wp_some, ↓wp_mbnd, ↓mlet_eq, ↓mbp_eq, ↓mbnd_eq, ↓mix_ite, ↓mdiv_ite, ↓mnz_ite, nI_add, nI_mul, nI_nat, nI_ltE, nI_leE, nI_eqE, nI_eqN, nI_Neq, nI_Nlt, nI_Nle, nI_ltN, nI_leN, ↓reduceIte, ↓Nat.reduceEqDiff, and_f, nt_e, nt_t, nl_t, nl_f, ne_t, ne_f, and_self, or_self, or_true, true_or, or_false, false_or, if_true, if_false, and_true, true_and, and_false, false_and, not_true, not_false_iff, e0, t5, l98, l116, l119, e2, x21]
    exact ro_end (w := 4) hw (by
      rw [cmd_chain hw (by decide), show frm 4 = [32, 100] from rfl, chain_c, chain_c]
      simp only [op32, op100, op110, op115]
      rw [show mTx.getD 9 [] = ltr 4 ++ [32] from rfl, lit_app]
      rfl) h2
  by_cases q_o : isAt tx L p 111 = true
  · have e0 : pk tx L p = nI 111 := by rw [at' p 111 (by decide)]; exact q_o
    have hw : wsel tx L p = some 5 := by unfold wsel; rw [if_neg q_h, if_neg q_s, if_neg q_g, if_neg q_b, if_pos q_o]
    have x15' := (x15 5 hw).2 (by decide)
    rw [x15']
    obtain ⟨⟨⟩, M2, e2, h2⟩ := m_says' 10 (by decide) (M20 (nI (codeW 5)))
    have x21 := h2.2.1.2.1
    have ec : codeW 5 = 111 := rfl
    rw [ec] at e2
    simp (disch := omega) only [lit_0, lit_1, lit_2, lit_3, lit_4, lit_5, lit_6, lit_7, lit_8, lit_9, lit_10, lit_11, lit_12, lit_13, lit_14, lit_15, lit_16, lit_20, lit_23, lit_24, lit_31, lit_32, lit_39, lit_43, lit_45, lit_47, lit_48, lit_56, lit_57, lit_59, lit_60, lit_62, lit_63, lit_89, lit_92, lit_96, lit_97, lit_99, lit_100, lit_102, lit_103, lit_104, lit_110, lit_111, lit_115, lit_117, lit_194, lit_200, lit_644, lit_736, lit_999, lit_1000, lit_9999, lit_10000, lit_1000000000, ↓wp_mlet, ↓wp_mbp, ↓wp_ite, ↓wp_mix, ↓wp_mdiv, ↓wp_mnz, ↓wp_some, ↓wp_mbnd, ↓mlet_eq, ↓mbp_eq, ↓mbnd_eq, ↓mix_ite, ↓mdiv_ite, ↓mnz_ite, nI_add, nI_mul, nI_nat, nI_ltE, nI_leE, nI_eqE, nI_eqN, nI_Neq, nI_Nlt, nI_Nle, nI_ltN, nI_leN, ↓reduceIte, ↓Nat.reduceEqDiff, and_f, nt_e, nt_t, nl_t, nl_f, ne_t, ne_f, and_self, or_self, or_true, true_or, or_false, false_or, if_true, if_false, and_true, true_and, and_false, false_and, not_true, not_false_iff, e0, t5, l98, l116, l119, e2, x21]
    exact ro_end (w := 5) hw (by
      rw [cmd_chain hw (by decide), show frm 5 = [] from rfl]
      rfl) h2
  by_cases q_c : isAt tx L p 99 = true
  · have e0 : pk tx L p = nI 99 := by rw [at' p 99 (by decide)]; exact q_c
    have hw : wsel tx L p = some 6 := by unfold wsel; rw [if_neg q_h, if_neg q_s, if_neg q_g, if_neg q_b, if_neg q_o, if_pos q_c]
    have x15' := (x15 6 hw).2 (by decide)
    rw [x15']
    obtain ⟨⟨⟩, M2, e2, h2⟩ := m_says' 11 (by decide) (M20 (nI (codeW 6)))
    have x21 := h2.2.1.2.1
    have ec : codeW 6 = 99 := rfl
    rw [ec] at e2
    simp (disch := omega) only [lit_0, lit_1, lit_2, lit_3, lit_4, lit_5, lit_6, lit_7, lit_8, lit_9, lit_10, lit_11, lit_12, lit_13, lit_14, lit_15, lit_16, lit_20, lit_23, lit_24, lit_31, lit_32, lit_39, lit_43, lit_45, lit_47, lit_48, lit_56, lit_57, lit_59, lit_60, lit_62, lit_63, lit_89, lit_92, lit_96, lit_97, lit_99, lit_100, lit_102, lit_103, lit_104, lit_110, lit_111, lit_115, lit_117, lit_194, lit_200, lit_644, lit_736, lit_999, lit_1000, lit_9999, lit_10000, lit_1000000000, ↓wp_mlet, ↓wp_mbp, ↓wp_ite, ↓wp_mix, ↓wp_mdiv, ↓wp_mnz, ↓wp_some, ↓wp_mbnd, ↓mlet_eq, ↓mbp_eq, ↓mbnd_eq, ↓mix_ite, ↓mdiv_ite, ↓mnz_ite, nI_add, nI_mul, nI_nat, nI_ltE, nI_leE, nI_eqE, nI_eqN, nI_Neq, nI_Nlt, nI_Nle, nI_ltN, nI_leN, ↓reduceIte, ↓Nat.reduceEqDiff, and_f, nt_e, nt_t, nl_t, nl_f, ne_t, ne_f, and_self, or_self, or_true, true_or, or_false, false_or, if_true, if_false, and_true, true_and, and_false, false_and, not_true, not_false_iff, e0, t5, l98, l116, l119, e2, x21]
    exact ro_end (w := 6) hw (by
      rw [cmd_chain hw (by decide), show frm 6 = [] from rfl]
      rfl) h2
  by_cases q_t : isAt tx L p 116 = true
  · have e0 : pk tx L p = nI 116 := by rw [at' p 116 (by decide)]; exact q_t
    have hw : wsel tx L p = some 8 := by unfold wsel; rw [if_neg q_h, if_neg q_s, if_neg q_g, if_neg q_b, if_neg q_o, if_neg q_c, if_pos q_t]
    have x15' := (x15 8 hw).2 (by decide)
    rw [x15']
    obtain ⟨⟨⟩, M2, e2, h2⟩ := m_num' (k := 1) (m := 1) 12 (by decide) (by decide) (by decide) (M20 (nI (codeW 8))) (fun _ => rfl)
    have x21 := h2.2.1.2.1
    have ec : codeW 8 = 116 := rfl
    rw [ec] at e2
    simp (disch := omega) only [lit_0, lit_1, lit_2, lit_3, lit_4, lit_5, lit_6, lit_7, lit_8, lit_9, lit_10, lit_11, lit_12, lit_13, lit_14, lit_15, lit_16, lit_20, lit_23, lit_24, lit_31, lit_32, lit_39, lit_43, lit_45, lit_47, lit_48, lit_56, lit_57, lit_59, lit_60, lit_62, lit_63, lit_89, lit_92, lit_96, lit_97, lit_99, lit_100, lit_102, lit_103, lit_104, lit_110, lit_111, lit_115, lit_117, lit_194, lit_200, lit_644, lit_736, lit_999, lit_1000, lit_9999, lit_10000, lit_1000000000, ↓wp_mlet, ↓wp_mbp, ↓wp_ite, ↓wp_mix, ↓wp_mdiv, ↓wp_mnz, ↓wp_some, ↓wp_mbnd, ↓mlet_eq, ↓mbp_eq, ↓mbnd_eq, ↓mix_ite, ↓mdiv_ite, ↓mnz_ite, nI_add, nI_mul, nI_nat, nI_ltE, nI_leE, nI_eqE, nI_eqN, nI_Neq, nI_Nlt, nI_Nle, nI_ltN, nI_leN, ↓reduceIte, ↓Nat.reduceEqDiff, and_f, nt_e, nt_t, nl_t, nl_f, ne_t, ne_f, and_self, or_self, or_true, true_or, or_false, false_or, if_true, if_false, and_true, true_and, and_false, false_and, not_true, not_false_iff, e0, t5, l98, l116, l119, e2, x21]
    exact ro_end (w := 8) hw (by
      rw [cmd_chain hw (by decide), show frm 8 = [32, 100] from rfl, chain_c, chain_c]
      simp only [op32, op100, op110, op115]
      rw [show mTx.getD 12 [] = ltr 8 ++ [32] from rfl, lit_app]
      rfl) h2
  by_cases q_w : isAt tx L p 119 = true
  · have e0 : pk tx L p = nI 119 := by rw [at' p 119 (by decide)]; exact q_w
    have hw : wsel tx L p = some 10 := by unfold wsel; rw [if_neg q_h, if_neg q_s, if_neg q_g, if_neg q_b, if_neg q_o, if_neg q_c, if_neg q_t, if_pos q_w]
    have x15' := (x15 10 hw).2 (by decide)
    rw [x15']
    obtain ⟨⟨⟩, M2, e2, h2⟩ := m_readsWait (M20 (nI (codeW 10)))
    have x21 := h2.2.1.2.1
    have ec : codeW 10 = 119 := rfl
    rw [ec] at e2
    simp (disch := omega) only [lit_0, lit_1, lit_2, lit_3, lit_4, lit_5, lit_6, lit_7, lit_8, lit_9, lit_10, lit_11, lit_12, lit_13, lit_14, lit_15, lit_16, lit_20, lit_23, lit_24, lit_31, lit_32, lit_39, lit_43, lit_45, lit_47, lit_48, lit_56, lit_57, lit_59, lit_60, lit_62, lit_63, lit_89, lit_92, lit_96, lit_97, lit_99, lit_100, lit_102, lit_103, lit_104, lit_110, lit_111, lit_115, lit_117, lit_194, lit_200, lit_644, lit_736, lit_999, lit_1000, lit_9999, lit_10000, lit_1000000000, ↓wp_mlet, ↓wp_mbp, ↓wp_ite, ↓wp_mix, ↓wp_mdiv, ↓wp_mnz, ↓wp_some, ↓wp_mbnd, ↓mlet_eq, ↓mbp_eq, ↓mbnd_eq, ↓mix_ite, ↓mdiv_ite, ↓mnz_ite, nI_add, nI_mul, nI_nat, nI_ltE, nI_leE, nI_eqE, nI_eqN, nI_Neq, nI_Nlt, nI_Nle, nI_ltN, nI_leN, ↓reduceIte, ↓Nat.reduceEqDiff, and_f, nt_e, nt_t, nl_t, nl_f, ne_t, ne_f, and_self, or_self, or_true, true_or, or_false, false_or, if_true, if_false, and_true, true_and, and_false, false_and, not_true, not_false_iff, e0, t5, l98, l116, l119, e2, x21]
    exact ro_end (w := 10) hw (by rw [cmd_some hw]; rfl) h2
  have hw : wsel tx L p = none := by unfold wsel; rw [if_neg q_h, if_neg q_s, if_neg q_g, if_neg q_b, if_neg q_o, if_neg q_c, if_neg q_t, if_neg q_w]
  have n_h : (pk tx L p = nI 104) = False := eq_false (by rw [at' p 104 (by decide)]; exact q_h)
  have n_s : (pk tx L p = nI 115) = False := eq_false (by rw [at' p 115 (by decide)]; exact q_s)
  have n_g : (pk tx L p = nI 103) = False := eq_false (by rw [at' p 103 (by decide)]; exact q_g)
  have n_b : (pk tx L p = nI 98) = False := eq_false (by rw [at' p 98 (by decide)]; exact q_b)
  have n_o : (pk tx L p = nI 111) = False := eq_false (by rw [at' p 111 (by decide)]; exact q_o)
  have n_c : (pk tx L p = nI 99) = False := eq_false (by rw [at' p 99 (by decide)]; exact q_c)
  have n_t : (pk tx L p = nI 116) = False := eq_false (by rw [at' p 116 (by decide)]; exact q_t)
  have n_w : (pk tx L p = nI 119) = False := eq_false (by rw [at' p 119 (by decide)]; exact q_w)
  have hr : cmdS tx L p z0 = (false, p, 0, z0) := cmd_none hw
  have x15' : (if (pk tx L p = 104 ∧ pk tx L (p + 1) = 117) ∨ (pk tx L p = 115 ∧ pk tx L (p + 1) = 104) ∨ (pk tx L p = 103 ∧ pk tx L (p + 1) = 117) then (1 : Int32) else 0) = nI 0 := if_neg (by
    rw [show (pk tx L p = 104) = False from n_h, show (pk tx L p = 115) = False from n_s, show (pk tx L p = 103) = False from n_g]
    simp)
  rw [x15']
  have x21 : ∀ v, (mup (mup M 12 54 (6 * c) v) 12 47 22 (nI 1)) 12 47 21 = nI c := fun v => by rw [mup_at, if_neg (by decide), mup_at, if_neg (by omega)]; exact t5
  simp (disch := omega) only [lit_0, lit_1, lit_2, lit_3, lit_4, lit_5, lit_6, lit_7, lit_8, lit_9, lit_10, lit_11, lit_12, lit_13, lit_14, lit_15, lit_16, lit_20, lit_23, lit_24, lit_31, lit_32, lit_39, lit_43, lit_45, lit_47, lit_48, lit_56, lit_57, lit_59, lit_60, lit_62, lit_63, lit_89, lit_92, lit_96, lit_97, lit_99, lit_100, lit_102, lit_103, lit_104, lit_110, lit_111, lit_115, lit_117, lit_194, lit_200, lit_644, lit_736, lit_999, lit_1000, lit_9999, lit_10000, lit_1000000000, ↓wp_mlet, ↓wp_mbp, ↓wp_ite, ↓wp_mix, ↓wp_mdiv, ↓wp_mnz, ↓wp_some, ↓wp_mbnd, ↓mlet_eq, ↓mbp_eq, ↓mbnd_eq, ↓mix_ite, ↓mdiv_ite, ↓mnz_ite, nI_add, nI_mul, nI_nat, nI_ltE, nI_leE, nI_eqE, nI_eqN, nI_Neq, nI_Nlt, nI_Nle, nI_ltN, nI_leN, ↓reduceIte, ↓Nat.reduceEqDiff, and_f, nt_e, nt_t, nl_t, nl_f, ne_t, ne_f, and_self, or_self, or_true, true_or, or_false, false_or, if_true, if_false, and_true, true_and, and_false, false_and, not_true, not_false_iff, t5, l98, l116, l119, n_h, n_s, n_g, n_b, n_o, n_c, n_t, n_w, x21]
  refine ⟨⟨t1, ?_, fun i hi => ?_⟩, ⟨?_, ?_, ?_⟩, ?_, fun hh => ?_, fun a b k hab => ?_⟩
  · rw [mup_at, if_neg (by decide), mup_at, if_neg (by decide), mup_at, if_neg (by omega)]; exact t2
  · rw [mup_at, if_neg (by omega), mup_at, if_neg (by omega), mup_at, if_neg (by omega)]; exact t3 i hi
  · rw [mup_at, if_neg (by decide), mup_at, if_neg (by decide), mup_at, if_neg (by omega), hr]; exact t4
  · rw [mup_at, if_pos (by decide)]
  · rw [mup_at, if_neg (by decide), mup_at, if_pos (by decide), hr]; rfl
  · rw [hr]; exact t7
  · rw [hr] at hh; cases hh
  · rw [mup_at, if_neg (by omega), mup_at, if_neg (by omega), mup_at, if_neg (by omega)]
