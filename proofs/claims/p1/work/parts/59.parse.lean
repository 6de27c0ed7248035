/-! TEXTS. tx: the signs, L: how many. A reader's state: well so far, place, how many numbers, the numbers -/
abbrev Rdr : Type := Bool × Nat × Nat × (Nat → Nat)
def isAt (tx : Nat → Nat) (L p : Nat) (c : Int32) : Bool := decide (p < L) && decide (nI (tx p) = c)
def ml (tx : Nat → Nat) (L : Nat) : List Int32 → Nat → Nat
  | [], _ => 0
  | c :: cs, p => if isAt tx L p c = true then 1 + ml tx L cs (p + 1) else 0
theorem ml_c {tx : Nat → Nat} {L p : Nat} {c : Int32} {cs : List Int32} : ml tx L (c :: cs) p = if isAt tx L p c = true then 1 + ml tx L cs (p + 1) else 0 := Eq.trans rfl rfl
theorem ml_n {tx : Nat → Nat} {L p : Nat} : ml tx L [] p = 0 := Eq.trans rfl rfl
theorem isAt_lt {tx : Nat → Nat} {L p : Nat} {c : Int32} (h : isAt tx L p c = true) : p < L ∧ nI (tx p) = c := by
  unfold isAt at h
  rw [Bool.and_eq_true, decide_eq_true_iff, decide_eq_true_iff] at h
  exact h
theorem isAt_f {tx : Nat → Nat} {L p : Nat} {c : Int32} (h : ¬ isAt tx L p c = true) (hp : p < L) : ¬ nI (tx p) = c := fun q => h (by
  unfold isAt
  rw [decide_eq_true hp, decide_eq_true q]; rfl)
theorem ml_le {tx : Nat → Nat} {L : Nat} : ∀ (ls : List Int32) p, ml tx L ls p ≤ ls.length
  | [], _ => Nat.le_refl _
  | c :: cs, p => by
    have := ml_le (tx := tx) (L := L) cs (p + 1)
    rw [ml_c, List.length_cons]
    split <;> omega
theorem ml_L {tx : Nat → Nat} {L : Nat} : ∀ (ls : List Int32) p, p ≤ L → p + ml tx L ls p ≤ L
  | [], p, h => h
  | c :: cs, p, h => by
    rw [ml_c]
    split
    · rename_i q
      have := ml_L (tx := tx) (L := L) cs (p + 1) (isAt_lt q).1
      omega
    · exact h
theorem ml_app {tx : Nat → Nat} {L : Nat} (bs : List Int32) : ∀ (as : List Int32) p, ml tx L (as ++ bs) p = if ml tx L as p = as.length then as.length + ml tx L bs (p + as.length) else ml tx L as p
  | [], p => by simp [ml_n]
  | c :: cs, p => by
    have ih := ml_app (tx := tx) (L := L) bs cs (p + 1)
    rw [List.cons_append, ml_c, ml_c, List.length_cons, ih]
    have hl := ml_le (tx := tx) (L := L) cs (p + 1)
    by_cases q : isAt tx L p c = true
    · rw [if_pos q, if_pos q]
      by_cases r : ml tx L cs (p + 1) = cs.length
      · rw [if_pos r, if_pos (by omega), show p + 1 + cs.length = p + (cs.length + 1) by omega]
        omega
      · rw [if_neg r, if_neg (by omega)]
    · rw [if_neg q, if_neg q, if_neg (by omega)]
def lit (tx : Nat → Nat) (L : Nat) (ls : List Int32) (r : Rdr) : Rdr := if r.1 = true then (decide (ml tx L ls r.2.1 = ls.length), r.2.1 + ml tx L ls r.2.1, r.2.2) else r
def isD (tx : Nat → Nat) (L p : Nat) : Bool := decide (p < L) && (decide (48 ≤ tx p) && decide (tx p ≤ 57))
theorem isD_t {tx : Nat → Nat} {L p : Nat} : (isD tx L p = true) = (p < L ∧ 48 ≤ tx p ∧ tx p ≤ 57) := by
  unfold isD
  rw [Bool.and_eq_true, Bool.and_eq_true, decide_eq_true_iff, decide_eq_true_iff, decide_eq_true_iff]
def dgc (tx : Nat → Nat) (L : Nat) : Nat → Nat → Nat
  | 0, _ => 0
  | m + 1, p => if isD tx L p = true then 1 + dgc tx L m (p + 1) else 0
def dgv (tx : Nat → Nat) (L : Nat) : Nat → Nat → Nat → Nat
  | 0, _, v => v
  | m + 1, p, v => if isD tx L p = true then dgv tx L m (p + 1) (v * 10 + (tx p - 48)) else v
theorem dgc_s {tx : Nat → Nat} {L m p : Nat} : dgc tx L (m + 1) p = if isD tx L p = true then 1 + dgc tx L m (p + 1) else 0 := Eq.trans rfl rfl
theorem dgv_s {tx : Nat → Nat} {L m p v : Nat} : dgv tx L (m + 1) p v = if isD tx L p = true then dgv tx L m (p + 1) (v * 10 + (tx p - 48)) else v := Eq.trans rfl rfl
theorem dgc_L {tx : Nat → Nat} {L : Nat} : ∀ m p, p ≤ L → p + dgc tx L m p ≤ L
  | 0, p, h => h
  | m + 1, p, h => by
    rw [dgc_s]
    split
    · rename_i q
      rw [isD_t] at q
      have := dgc_L (tx := tx) (L := L) m (p + 1) (by omega)
      omega
    · exact h
def pushn (v : Nat) (r : Rdr) : Rdr := (r.1, r.2.1, r.2.2.1 + 1, fun j => if j = r.2.2.1 then v else r.2.2.2 j)
def num (tx : Nat → Nat) (L m : Nat) (r : Rdr) : Rdr := if r.1 = true then (if dgc tx L m r.2.1 = 0 then (false, r.2) else pushn (dgv tx L m r.2.1 0) (true, r.2.1 + dgc tx L m r.2.1, r.2.2)) else r
def dir (tx : Nat → Nat) (L : Nat) (r : Rdr) : Rdr := if r.1 = true then (if isAt tx L r.2.1 43 = true then pushn 1 (true, r.2.1 + 1, r.2.2) else if isAt tx L r.2.1 45 = true then pushn 0 (true, r.2.1 + 1, r.2.2) else (false, r.2)) else r
theorem lit_no {tx : Nat → Nat} {L : Nat} {ls : List Int32} {r : Rdr} (h : ¬ r.1 = true) : lit tx L ls r = r := if_neg h
theorem num_no {tx : Nat → Nat} {L m : Nat} {r : Rdr} (h : ¬ r.1 = true) : num tx L m r = r := if_neg h
theorem dir_no {tx : Nat → Nat} {L : Nat} {r : Rdr} (h : ¬ r.1 = true) : dir tx L r = r := if_neg h
theorem lit_app {tx : Nat → Nat} {L : Nat} (as bs : List Int32) (r : Rdr) : lit tx L (as ++ bs) r = lit tx L bs (lit tx L as r) := by
  by_cases h : r.1 = true
  · unfold lit
    rw [if_pos h, if_pos h, ml_app, List.length_append]
    have l1 := ml_le (tx := tx) (L := L) as r.2.1
    by_cases q : ml tx L as r.2.1 = as.length
    · rw [if_pos q, if_pos (decide_eq_true q)]
      simp only [q]
      refine Prod.ext ?_ (Prod.ext ?_ rfl)
      · exact dec_cg (by omega)
      · show r.2.1 + (as.length + _) = r.2.1 + as.length + _
        omega
    · rw [if_neg q, if_neg (show ¬ decide (ml tx L as r.2.1 = as.length) = true by rw [decide_eq_false q]; decide)]
      refine Prod.ext ?_ rfl
      exact dec_cg (by omega)
  · rw [lit_no h, lit_no h, lit_no h]
/-- one sign of a form -/
def opF (tx : Nat → Nat) (L : Nat) (c : Int32) (r : Rdr) : Rdr := if c = 100 then num tx L 1 r else if c = 110 then num tx L 2 r else if c = 115 then dir tx L r else lit tx L [32] r
def frmS (tx : Nat → Nat) (L : Nat) : List Int32 → Rdr → Rdr
  | [], r => r
  | c :: cs, r => if c = 63 then (if isAt tx L r.2.1 32 = true then frmS tx L cs r else pushn 1 r) else (if (opF tx L c r).1 = true then frmS tx L cs (opF tx L c r) else opF tx L c r)
theorem frm_c {tx : Nat → Nat} {L : Nat} {c : Int32} {cs : List Int32} {r : Rdr} : frmS tx L (c :: cs) r = if c = 63 then (if isAt tx L r.2.1 32 = true then frmS tx L cs r else pushn 1 r) else (if (opF tx L c r).1 = true then frmS tx L cs (opF tx L c r) else opF tx L c r) := Eq.trans rfl rfl
/-- the word that begins at p, by its first two letters -/
def wsel (tx : Nat → Nat) (L p : Nat) : Option Nat := if isAt tx L p 104 = true then (if isAt tx L (p + 1) 117 = true then some 9 else some 0) else if isAt tx L p 115 = true then (if isAt tx L (p + 1) 104 = true then some 2 else some 1) else if isAt tx L p 103 = true then (if isAt tx L (p + 1) 117 = true then some 7 else some 3) else if isAt tx L p 98 = true then some 4 else if isAt tx L p 111 = true then some 5 else if isAt tx L p 99 = true then some 6 else if isAt tx L p 116 = true then some 8 else if isAt tx L p 119 = true then some 10 else none
def ltr (w : Nat) : List Int32 := mTx.getD (mLt.getD w 0) []
def frm (w : Nat) : List Int32 := mTx.getD (mFm.getD w 0) []
def r0 (p : Nat) (ns : Nat → Nat) : Rdr := (true, p, 0, ns)
/-- one command -/
def cmdS (tx : Nat → Nat) (L p : Nat) (ns : Nat → Nat) : Rdr := match wsel tx L p with
  | none => (false, p, 0, ns)
  | some w => if (lit tx L (ltr w) (r0 p ns)).1 = true then frmS tx L (frm w) (lit tx L (ltr w) (r0 p ns)) else lit tx L (ltr w) (r0 p ns)
/-! the class -/
def Txt (M : Mem) (tx : Nat → Nat) (L : Nat) : Prop := L ≤ 60 ∧ M 12 26 1 = nI L ∧ ∀ i, i < L → M 12 27 i = nI (tx i) ∧ tx i < 65536
def pk (tx : Nat → Nat) (L p : Nat) : Int32 := if p < L then nI (tx p) else -nI 1
theorem c_peek {M : Mem} {tx : Nat → Nat} {L p : Nat} (h : Txt M tx L) (hp : M 12 26 2 = nI p) (hl : p ≤ L) : f_X2_peek M = some (pk tx L p) := by
  obtain ⟨h1, h2, h3⟩ := h
  unfold f_X2_peek pk
  by_cases q : p < L
  · rw [if_pos q]
    simp (disch := omega) only [lit_0, lit_1, lit_2, lit_3, lit_4, lit_5, lit_6, lit_7, lit_8, lit_9, lit_10, lit_11, lit_12, lit_13, lit_14, lit_15, lit_16, lit_20, lit_23, lit_24, lit_31, lit_32, lit_39, lit_43, lit_45, lit_47, lit_48, lit_56, lit_57, lit_59, lit_60, lit_62, lit_63, lit_89, lit_92, lit_96, lit_97, lit_99, lit_100, lit_102, lit_103, lit_104, lit_110, lit_111, lit_115, lit_117, lit_194, lit_200, lit_644, lit_736, lit_999, lit_1000, lit_9999, lit_10000, lit_1000000000, ↓wp_mlet, ↓wp_mbp, ↓wp_ite, ↓wp_mix, ↓wp_mdiv, ↓wp_mnz, ↓wp_some, ↓wp_mbnd, ↓mlet_eq, ↓mbp_eq, ↓mbnd_eq, ↓mix_ite, ↓mdiv_ite, ↓mnz_ite, nI_add, nI_mul, nI_nat, nI_ltE, nI_leE, nI_eqE, nI_eqN, nI_Neq, nI_Nlt, nI_Nle, nI_ltN, nI_leN, ↓reduceIte, ↓Nat.reduceEqDiff, and_f, nt_e, nt_t, nl_t, nl_f, ne_t, ne_f, and_self, or_self, or_true, true_or, or_false, false_or, if_true, if_false, and_true, true_and, and_false, false_and, not_true, not_false_iff, h2, hp, (h3 p q).1]
  · rw [if_neg q]
    simp (disch := omega) only [lit_0, lit_1, lit_2, lit_3, lit_4, lit_5, lit_6, lit_7, lit_8, lit_9, lit_10, lit_11, lit_12, lit_13, lit_14, lit_15, lit_16, lit_20, lit_23, lit_24, lit_31, lit_32, lit_39, lit_43, lit_45, lit_47, lit_48, lit_56, lit_57, lit_59, lit_60, lit_62, lit_63, lit_89, lit_92, lit_96, lit_97, lit_99, lit_100, lit_102, lit_103, lit_104, lit_110, lit_111, lit_115, lit_117, lit_194, lit_200, lit_644, lit_736, lit_999, lit_1000, lit_9999, lit_10000, lit_1000000000, ↓wp_mlet, ↓wp_mbp, ↓wp_ite, ↓wp_mix, ↓wp_mdiv, ↓wp_mnz, ↓wp_some, ↓wp_mbnd, ↓mlet_eq, ↓mbp_eq, ↓mbnd_eq, ↓mix_ite, ↓mdiv_ite, ↓mnz_ite, nI_add, nI_mul, nI_nat, nI_ltE, nI_leE, nI_eqE, nI_eqN, nI_Neq, nI_Nlt, nI_Nle, nI_ltN, nI_leN, ↓reduceIte, ↓Nat.reduceEqDiff, and_f, nt_e, nt_t, nl_t, nl_f, ne_t, ne_f, and_self, or_self, or_true, true_or, or_false, false_or, if_true, if_false, and_true, true_and, and_false, false_and, not_true, not_false_iff, h2, hp]
theorem pk_at {tx : Nat → Nat} {L p c : Nat} (htx : ∀ i, i < L → tx i < 65536) (hc : c < 65536) : (pk tx L p = nI c) = (isAt tx L p (nI c) = true) := by
  unfold pk isAt
  by_cases q : p < L
  · rw [if_pos q, decide_eq_true q, Bool.true_and, decide_eq_true_iff]
  · rw [if_neg q, decide_eq_false q, Bool.false_and, nI_Neq (by omega) (by decide) (by decide)]
    simp
/-- the class's reader, at its command c -/
def Cst (M0 M : Mem) (tx : Nat → Nat) (L c : Nat) (r : Rdr) : Prop := Txt M tx L ∧ (M 12 26 2 = nI r.2.1 ∧ M 12 26 3 = nI c ∧ M 12 26 6 = nI r.2.2.1) ∧ (r.2.1 ≤ L ∧ c < 15 ∧ r.2.2.1 ≤ 4) ∧ (∀ j, j < r.2.2.1 → M 12 (30 + c) j = nI (r.2.2.2 j)) ∧ ∀ a b, ¬ (a = 12 ∧ (b = 26 ∨ b = 30 + c)) → M a b = M0 a b
theorem Cst.at {M0 M M1 : Mem} {tx : Nat → Nat} {L c p : Nat} {r : Rdr} (h : Cst M0 M tx L c r) (hp : p ≤ L) (ok : Bool) (hM : M1 = mup M 12 26 2 (nI p)) : Cst M0 M1 tx L c (ok, p, r.2.2) := by
  obtain ⟨⟨h1, h2, h3⟩, ⟨h4, h5, h6⟩, ⟨h7, h8, h9⟩, h10, h11⟩ := h
  subst hM
  refine ⟨⟨h1, ?_, fun i hi => ?_⟩, ⟨?_, ?_, ?_⟩, ⟨hp, h8, h9⟩, fun j hj => ?_, fun a b hab => ?_⟩
  · rw [mup_at, if_neg (by decide)]; exact h2
  · rw [mup_at, if_neg (by omega)]; exact h3 i hi
  · rw [mup_at, if_pos (by decide)]
  · rw [mup_at, if_neg (by decide)]; exact h5
  · rw [mup_at, if_neg (by decide)]; exact h6
  · rw [mup_at, if_neg (by omega)]; exact h10 j hj
  · rw [pm_ne (by omega)]; exact h11 a b hab
theorem Cst.ok {M0 M : Mem} {tx : Nat → Nat} {L c : Nat} {r : Rdr} (h : Cst M0 M tx L c r) (ok : Bool) : Cst M0 M tx L c (ok, r.2) := h
theorem c_addNumber {M0 M : Mem} {tx : Nat → Nat} {L c v : Nat} {r : Rdr} (h : Cst M0 M tx L c r) (hn : r.2.2.1 < 4) : wp (f_X2_addNumber (nI v) M) fun _ M1 => Cst M0 M1 tx L c (pushn v r) := by
  obtain ⟨⟨h1, h2, h3⟩, ⟨h4, h5, h6⟩, ⟨h7, h8, h9⟩, h10, h11⟩ := h
  have e6 : (mup M 12 (30 + c) r.2.2.1 (nI v)) 12 26 6 = nI r.2.2.1 := by rw [mup_at, if_neg (by omega)]; exact h6
  unfold f_X2_addNumber
  simp (disch := omega) only [lit_0, lit_1, lit_2, lit_3, lit_4, lit_5, lit_6, lit_7, lit_8, lit_9, lit_10, lit_11, lit_12, lit_13, lit_14, lit_15, lit_16, lit_20, lit_23, lit_24, lit_31, lit_32, lit_39, lit_43, lit_45, lit_47, lit_48, lit_56, lit_57, lit_59, lit_60, lit_62, lit_63, lit_89, lit_92, lit_96, lit_97, lit_99, lit_100, lit_102, lit_103, lit_104, lit_110, lit_111, lit_115, lit_117, lit_194, lit_200, lit_644, lit_736, lit_999, lit_1000, lit_9999, lit_10000, lit_1000000000, ↓wp_mlet, ↓wp_mbp, ↓wp_ite, ↓wp_mix, ↓wp_mdiv, ↓wp_mnz, ↓wp_some, ↓wp_mbnd, ↓mlet_eq, ↓mbp_eq, ↓mbnd_eq, ↓mix_ite, ↓mdiv_ite, ↓mnz_ite, nI_add, nI_mul, nI_nat, nI_ltE, nI_leE, nI_eqE, nI_eqN, nI_Neq, nI_Nlt, nI_Nle, nI_ltN, nI_leN, ↓reduceIte, ↓Nat.reduceEqDiff, and_f, nt_e, nt_t, nl_t, nl_f, ne_t, ne_f, and_self, or_self, or_true, true_or, or_false, false_or, if_true, if_false, and_true, true_and, and_false, false_and, not_true, not_false_iff, h5, h6, e6]
  refine ⟨⟨h1, ?_, fun i hi => ?_⟩, ⟨?_, ?_, ?_⟩, ⟨h7, h8, ?_⟩, fun j hj => ?_, fun a b hab => ?_⟩
  · rw [mup_at, if_neg (by decide), mup_at, if_neg (by omega)]; exact h2
  · rw [mup_at, if_neg (by omega), mup_at, if_neg (by omega)]; exact h3 i hi
  · rw [mup_at, if_neg (by omega), mup_at, if_neg (by omega)]; exact h4
  · rw [mup_at, if_neg (by omega), mup_at, if_neg (by omega)]; exact h5
  · rw [mup_at, if_pos (by decide)]; rfl
  · show r.2.2.1 + 1 ≤ 4
    omega
  · rw [mup_at, if_neg (by omega), mup_at]
    show _ = nI (if j = r.2.2.1 then v else r.2.2.2 j)
    by_cases q : j = r.2.2.1
    · rw [if_pos (by omega), if_pos q]
    · rw [if_neg (by omega), if_neg q]
      exact h10 j (by have : j < r.2.2.1 + 1 := hj; omega)
  · rw [pm_ne (by omega), pm_ne (by omega)]; exact h11 a b hab
