def hdL : List Int32 := [104, 115, 115, 103, 98, 111, 99, 103, 116, 104, 119]
def sdL : List Int32 := [111, 101, 104, 105, 97, 112, 108, 117, 117, 117, 97]
theorem ltr_all : ∀ k : Fin 11, ltr k.val = hdL.getD k.val 0 :: sdL.getD k.val 0 :: (ltr k.val).drop 2 ∧ 3 ≤ (ltr k.val).length ∧ (ltr k.val).length ≤ 8 ∧ mTl.getD (mLt.getD k.val 0) 0 = (mTx.getD (mLt.getD k.val 0) []).length ∧ mTl.getD (mFm.getD k.val 0) 0 = (mTx.getD (mFm.getD k.val 0) []).length ∧ (frm k.val).length ≤ 8 ∧ nnum (frm k.val) ≤ 4 ∧ (k.val = 9 ∨ 4 ≤ (ltr k.val).length) := by decide +kernel
theorem hd_all : ∀ k w : Fin 11, k ≠ w → hdL.getD k.val 0 = hdL.getD w.val 0 → (w = 0 ∧ k = 9) ∨ (w = 9 ∧ k = 0) ∨ (w = 1 ∧ k = 2) ∨ (w = 2 ∧ k = 1) ∨ (w = 3 ∧ k = 7) ∨ (w = 7 ∧ k = 3) := by decide +kernel
theorem isAt_inj {tx : Nat → Nat} {L p : Nat} {a b : Int32} (h1 : isAt tx L p a = true) (h2 : isAt tx L p b = true) : a = b := (isAt_lt h1).2.symm.trans (isAt_lt h2).2
theorem ml_two {tx : Nat → Nat} {L p k : Nat} (hk : k < 11) : ml tx L (ltr k) p = if isAt tx L p (hdL.getD k 0) = true then 1 + (if isAt tx L (p + 1) (sdL.getD k 0) = true then 1 + ml tx L ((ltr k).drop 2) (p + 1 + 1) else 0) else 0 := by
  have h := (ltr_all ⟨k, hk⟩).1
  simp only [] at h
  rw [h, ml_c, ml_c]
  rfl
def rwS (tx : Nat → Nat) (L p : Nat) : Nat → Nat → Nat → Option Nat × Nat
  | 0, _, b => (none, b)
  | d + 1, k, b => if ml tx L (ltr k) p = (ltr k).length then (some k, ml tx L (ltr k) p) else rwS tx L p d (k + 1) (if b < ml tx L (ltr k) p then ml tx L (ltr k) p else b)
theorem rwS_s {tx : Nat → Nat} {L p d k b : Nat} : rwS tx L p (d + 1) k b = if ml tx L (ltr k) p = (ltr k).length then (some k, ml tx L (ltr k) p) else rwS tx L p d (k + 1) (if b < ml tx L (ltr k) p then ml tx L (ltr k) p else b) := Eq.trans rfl rfl
theorem rwS_none {tx : Nat → Nat} {L p : Nat} (h : ∀ k, k < 11 → ml tx L (ltr k) p = 0) : ∀ d k, k + d = 11 → rwS tx L p d k 0 = (none, 0) := by
  intro d
  induction d with
  | zero => intro k _; rfl
  | succ d ih =>
    intro k hk
    have h1 := h k (by omega)
    have h2 := (ltr_all ⟨k, by omega⟩).2.1
    simp only [] at h2
    rw [rwS_s, h1, if_neg (by omega), if_neg (Nat.lt_irrefl 0)]
    exact ih (k + 1) (by omega)
theorem rwS_some {tx : Nat → Nat} {L p w : Nat} (hw : w < 11) (h : ∀ k, k < 11 → k ≠ w → ml tx L (ltr k) p ≤ 1) (hq : 1 ≤ ml tx L (ltr w) p) : ∀ d k b, k + d = 11 → (k ≤ w → b ≤ 1) → (w < k → b = ml tx L (ltr w) p ∧ ml tx L (ltr w) p ≠ (ltr w).length) → rwS tx L p d k b = if ml tx L (ltr w) p = (ltr w).length then (some w, ml tx L (ltr w) p) else (none, ml tx L (ltr w) p) := by
  intro d
  induction d with
  | zero =>
    intro k b h1 h2 h3
    obtain ⟨h4, h5⟩ := h3 (by omega)
    rw [if_neg h5, h4]
    rfl
  | succ d ih =>
    intro k b h1 h2 h3
    have h6 := (ltr_all ⟨k, by omega⟩).2.1
    simp only [] at h6
    rw [rwS_s]
    by_cases q : k = w
    · subst q
      by_cases r : ml tx L (ltr k) p = (ltr k).length
      · rw [if_pos r, if_pos r]
      · have h7 := h2 (Nat.le_refl k)
        rw [if_neg r]
        rw [ih (k + 1) _ (by omega) (fun hh => by omega) (fun _ => ⟨by split <;> omega, r⟩)]
    · have h7 := h k (by omega) q
      rw [if_neg (by omega)]
      refine ih (k + 1) _ (by omega) (fun hh => ?_) (fun hh => ?_)
      · have h8 := h2 (by omega)
        split <;> omega
      · obtain ⟨h8, h9⟩ := h3 (by omega)
        exact ⟨by split <;> omega, h9⟩
theorem sel_of {tx : Nat → Nat} {L p w : Nat} (hw : w < 11) (hA : isAt tx L p (hdL.getD w 0) = true) (hB : ∀ k, k < 11 → k ≠ w → hdL.getD k 0 = hdL.getD w 0 → ¬ isAt tx L (p + 1) (sdL.getD k 0) = true) : rwS tx L p 11 0 0 = if ml tx L (ltr w) p = (ltr w).length then (some w, ml tx L (ltr w) p) else (none, ml tx L (ltr w) p) := by
  refine rwS_some hw (fun k hk hkw => ?_) ?_ 11 0 0 rfl (fun _ => Nat.zero_le _) (fun h => absurd h (Nat.not_lt_zero _))
  · rw [ml_two hk]
    by_cases q : isAt tx L p (hdL.getD k 0) = true
    · rw [if_pos q, if_neg (hB k hk hkw (isAt_inj q hA))]
      exact Nat.le_refl _
    · rw [if_neg q]
      exact Nat.zero_le _
  · rw [ml_two hw, if_pos hA]
    omega
theorem rwS_sel {tx : Nat → Nat} {L p : Nat} : (∀ w, wsel tx L p = some w → w < 11 ∧ rwS tx L p 11 0 0 = if ml tx L (ltr w) p = (ltr w).length then (some w, ml tx L (ltr w) p) else (none, ml tx L (ltr w) p)) ∧ (wsel tx L p = none → rwS tx L p 11 0 0 = (none, 0)) := by
  have hb : ∀ w k : Nat, ∀ hw : w < 11, ∀ hk : k < 11, k ≠ w → hdL.getD k 0 = hdL.getD w 0 → (w = 0 ∧ k = 9) ∨ (w = 9 ∧ k = 0) ∨ (w = 1 ∧ k = 2) ∨ (w = 2 ∧ k = 1) ∨ (w = 3 ∧ k = 7) ∨ (w = 7 ∧ k = 3) := by
    intro w k hw hk h1 h2
    have := hd_all ⟨k, hk⟩ ⟨w, hw⟩ (fun e => h1 (congrArg Fin.val e)) h2
    rcases this with ⟨a, b⟩ | ⟨a, b⟩ | ⟨a, b⟩ | ⟨a, b⟩ | ⟨a, b⟩ | ⟨a, b⟩
    · exact Or.inl ⟨congrArg Fin.val a, congrArg Fin.val b⟩
    · exact Or.inr (Or.inl ⟨congrArg Fin.val a, congrArg Fin.val b⟩)
    · exact Or.inr (Or.inr (Or.inl ⟨congrArg Fin.val a, congrArg Fin.val b⟩))
    · exact Or.inr (Or.inr (Or.inr (Or.inl ⟨congrArg Fin.val a, congrArg Fin.val b⟩)))
    · exact Or.inr (Or.inr (Or.inr (Or.inr (Or.inl ⟨congrArg Fin.val a, congrArg Fin.val b⟩))))
    · exact Or.inr (Or.inr (Or.inr (Or.inr (Or.inr ⟨congrArg Fin.val a, congrArg Fin.val b⟩))))
  have two : ∀ w k0 : Nat, ∀ hw : w < 11, isAt tx L p (hdL.getD w 0) = true → (∀ k, k < 11 → k ≠ w → hdL.getD k 0 = hdL.getD w 0 → k = k0) → ¬ isAt tx L (p + 1) (sdL.getD k0 0) = true → w < 11 ∧ rwS tx L p 11 0 0 = if ml tx L (ltr w) p = (ltr w).length then (some w, ml tx L (ltr w) p) else (none, ml tx L (ltr w) p) := by
    intro w k0 hw h1 h2 h3
    exact ⟨hw, sel_of hw h1 (fun k hk hkw he => by rw [h2 k hk hkw he]; exact h3)⟩
  have one' : ∀ w : Nat, ∀ hw : w < 11, isAt tx L p (hdL.getD w 0) = true → (w = 4 ∨ w = 5 ∨ w = 6 ∨ w = 8 ∨ w = 10) → w < 11 ∧ rwS tx L p 11 0 0 = if ml tx L (ltr w) p = (ltr w).length then (some w, ml tx L (ltr w) p) else (none, ml tx L (ltr w) p) := by
    intro w hw h1 h2
    exact ⟨hw, sel_of hw h1 (fun k hk hkw he => by have := hb w k hw hk hkw he; omega)⟩
  have ne : ∀ {a b : Int32} {q : Nat}, a ≠ b → isAt tx L q a = true → ¬ isAt tx L q b = true := fun hab h1 h2 => hab (isAt_inj h1 h2)
  unfold wsel
  by_cases q1 : isAt tx L p 104 = true
  · rw [if_pos q1]
    by_cases q2 : isAt tx L (p + 1) 117 = true
    · rw [if_pos q2]
      refine ⟨fun w e => ?_, fun e => (by cases e)⟩
      cases e
      exact two 9 0 (by decide) q1 (fun k hk h1 h2 => by have := hb 9 k (by decide) hk h1 h2; omega) (ne (show (117 : Int32) ≠ 111 by decide) q2)
    · rw [if_neg q2]
      refine ⟨fun w e => ?_, fun e => (by cases e)⟩
      cases e
      exact two 0 9 (by decide) q1 (fun k hk h1 h2 => by have := hb 0 k (by decide) hk h1 h2; omega) q2
  rw [if_neg q1]
  by_cases q3 : isAt tx L p 115 = true
  · rw [if_pos q3]
    by_cases q2 : isAt tx L (p + 1) 104 = true
    · rw [if_pos q2]
      refine ⟨fun w e => ?_, fun e => (by cases e)⟩
      cases e
      exact two 2 1 (by decide) q3 (fun k hk h1 h2 => by have := hb 2 k (by decide) hk h1 h2; omega) (ne (show (104 : Int32) ≠ 101 by decide) q2)
    · rw [if_neg q2]
      refine ⟨fun w e => ?_, fun e => (by cases e)⟩
      cases e
      exact two 1 2 (by decide) q3 (fun k hk h1 h2 => by have := hb 1 k (by decide) hk h1 h2; omega) q2
  rw [if_neg q3]
  by_cases q4 : isAt tx L p 103 = true
  · rw [if_pos q4]
    by_cases q2 : isAt tx L (p + 1) 117 = true
    · rw [if_pos q2]
      refine ⟨fun w e => ?_, fun e => (by cases e)⟩
      cases e
      exact two 7 3 (by decide) q4 (fun k hk h1 h2 => by have := hb 7 k (by decide) hk h1 h2; omega) (ne (show (117 : Int32) ≠ 105 by decide) q2)
    · rw [if_neg q2]
      refine ⟨fun w e => ?_, fun e => (by cases e)⟩
      cases e
      exact two 3 7 (by decide) q4 (fun k hk h1 h2 => by have := hb 3 k (by decide) hk h1 h2; omega) q2
  rw [if_neg q4]
  by_cases q5 : isAt tx L p 98 = true
  · rw [if_pos q5]
    refine ⟨fun w e => ?_, fun e => (by cases e)⟩
    cases e
    exact one' 4 (by decide) q5 (by decide)
  rw [if_neg q5]
  by_cases q6 : isAt tx L p 111 = true
  · rw [if_pos q6]
    refine ⟨fun w e => ?_, fun e => (by cases e)⟩
    cases e
    exact one' 5 (by decide) q6 (by decide)
  rw [if_neg q6]
  by_cases q7 : isAt tx L p 99 = true
  · rw [if_pos q7]
    refine ⟨fun w e => ?_, fun e => (by cases e)⟩
    cases e
    exact one' 6 (by decide) q7 (by decide)
  rw [if_neg q7]
  by_cases q8 : isAt tx L p 116 = true
  · rw [if_pos q8]
    refine ⟨fun w e => ?_, fun e => (by cases e)⟩
    cases e
    exact one' 8 (by decide) q8 (by decide)
  rw [if_neg q8]
  by_cases q9 : isAt tx L p 119 = true
  · rw [if_pos q9]
    refine ⟨fun w e => ?_, fun e => (by cases e)⟩
    cases e
    exact one' 10 (by decide) q9 (by decide)
  rw [if_neg q9]
  refine ⟨fun w e => (by cases e), fun _ => rwS_none (fun k hk => ?_) 11 0 rfl⟩
  rw [ml_two hk, if_neg]
  rcases (show k = 0 ∨ k = 1 ∨ k = 2 ∨ k = 3 ∨ k = 4 ∨ k = 5 ∨ k = 6 ∨ k = 7 ∨ k = 8 ∨ k = 9 ∨ k = 10 by omega) with rfl | rfl | rfl | rfl | rfl | rfl | rfl | rfl | rfl | rfl | rfl
  · exact q1
  · exact q3
  · exact q3
  · exact q4
  · exact q5
  · exact q6
  · exact q7
  · exact q4
  · exact q8
  · exact q1
  · exact q9
/-- the class's words -/
theorem c_words {M : Mem} {tx : Nat → Nat} {L p : Nat} (ht : Txt M tx L) (hp : M 12 26 2 = nI p) (hl : p ≤ L) (kk : Int32 → Option (Option Nat × Mem)) : ∀ d N k b, k + d = 11 → d < N → b ≤ 8 → (∀ w q, rwS tx L p d k b = (some w, q) → f_X2_readWord_L12 M N (nI b) (nI k) kk = some (some w, mup M 12 26 2 (nI (p + q)))) ∧ (∀ q, rwS tx L p d k b = (none, q) → f_X2_readWord_L12 M N (nI b) (nI k) kk = kk (nI q)) := by
  intro d
  induction d with
  | zero =>
    intro N k b h1 h2 hb
    obtain ⟨n, rfl⟩ : ∃ n, N = n + 1 := ⟨N - 1, by omega⟩
    obtain rfl : k = 11 := by omega
    rw [f_X2_readWord_L12.eq_2, if_pos (show (11 : Int32) ≤ nI 11 by decide)]
    refine ⟨fun w q e => (by cases e), fun q e => ?_⟩
    cases e
    rfl
  | succ d ih =>
    intro N k b h1 h2 hb
    obtain ⟨n, rfl⟩ : ∃ n, N = n + 1 := ⟨N - 1, by omega⟩
    obtain ⟨a1, a2, a3, a4, a5, a6, a7, a8⟩ := ltr_all ⟨k, by omega⟩
    simp only [] at a1 a2 a3 a4 a5 a6 a7 a8
    have hml := ml_le (tx := tx) (L := L) (ltr k) p
    have em : f_X2_matchingLetters (mLt.getD k 0) M = some (nI (ml tx L (ltr k) p)) := by
      unfold f_X2_matchingLetters
      have := c_match (t := mLt.getD k 0) a4 a3 ht hp (fun x6 => some x6) (ltr k) 0 1000 rfl (by rw [Nat.zero_add]; rfl) (by omega) (by omega)
      rw [Nat.zero_add, Nat.add_zero] at this
      exact this
    have e0 : Int32.ofNat (mTl.getD (mLt.getD k 0) 0) = nI (ltr k).length := by rw [a4]; rfl
    have e1 := ht.1
    rw [f_X2_readWord_L12.eq_2, lit_11, if_neg (show ¬ nI 11 ≤ nI k by rw [nI_leE (by omega) (by omega)]; omega), nI_mix (by omega) (by omega), nI_nat (by omega), em, mbp_eq, e0, rwS_s]
    by_cases q : ml tx L (ltr k) p = (ltr k).length
    · rw [if_pos q, if_pos (by rw [q]), hp, nI_add, mlet_eq]
      refine ⟨fun w q' e => ?_, fun q' e => (by cases e)⟩
      cases e
      rfl
    · have q9 : ¬ nI (ml tx L (ltr k) p) = nI (ltr k).length := by rw [nI_eqE (by omega) (by omega)]; exact q
      rw [if_neg q, if_neg q9]
      have e2 : (if nI b < nI (ml tx L (ltr k) p) then nI (ml tx L (ltr k) p) else nI b) = nI (if b < ml tx L (ltr k) p then ml tx L (ltr k) p else b) := by
        by_cases r : b < ml tx L (ltr k) p
        · rw [if_pos r, if_pos (by rw [nI_ltE (by omega) (by omega)]; exact r)]
        · rw [if_neg r, if_neg (by rw [nI_ltE (by omega) (by omega)]; exact r)]
      rw [e2, mlet_eq, mlet_eq, lit_1, nI_add]
      have b8 : (if b < ml tx L (ltr k) p then ml tx L (ltr k) p else b) ≤ 8 := by split <;> omega
      exact ih n (k + 1) _ (by omega) (by omega) b8
