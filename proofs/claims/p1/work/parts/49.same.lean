/-! THE THREE ANSWERS ARE ONE -/
theorem cf_cg {T : Nat} {s t t' : Nat → Nat} (hT : 1 ≤ T ∧ T ≤ 3) (h : ∀ i, i < T → t i = t' i) (k : Nat) : cf T s t k = cf T s t' k := by
  by_cases q : T ≤ k
  · rw [cf_deg q, cf_deg q]
  rcases (show T = 1 ∨ T = 2 ∨ T = 3 by omega) with rfl | rfl | rfl
  · obtain rfl : k = 0 := by omega
    have e0 : ∀ t, cf 1 s t 0 = zz (s (t 0)) := fun t => by simp [cf, cf0]
    rw [e0, e0, h 0 (by decide)]
  · have e1 : ∀ t, cf 2 s t 1 = (zz (s (t 1)) - zz (s (t 0))) * iz (ps t 1 - ps t 0) := fun t => by simp [cf, cf1]
    have e0 : ∀ t, cf 2 s t 0 = zz (s (t 0)) - cf 2 s t 1 * ps t 0 := fun t => by simp [cf, cf0]
    have p : ∀ i, i < 2 → ps t i = ps t' i := fun i hi => by unfold ps; rw [h i hi]
    have q1 : cf 2 s t 1 = cf 2 s t' 1 := by rw [e1, e1, h 0 (by decide), h 1 (by decide), p 0 (by decide), p 1 (by decide)]
    rcases (show k = 0 ∨ k = 1 by omega) with rfl | rfl
    · rw [e0, e0, q1, h 0 (by decide), p 0 (by decide)]
    · exact q1
  · have e2 : ∀ t, cf 3 s t 2 = ((zz (s (t 2)) - zz (s (t 0))) * iz (ps t 2 - ps t 0) - (zz (s (t 1)) - zz (s (t 0))) * iz (ps t 1 - ps t 0)) * iz (ps t 2 - ps t 1) := fun t => by simp [cf, cf2]
    have e1 : ∀ t, cf 3 s t 1 = (zz (s (t 1)) - zz (s (t 0))) * iz (ps t 1 - ps t 0) - cf 3 s t 2 * (ps t 0 + ps t 1) := fun t => by simp [cf, cf1]
    have e0 : ∀ t, cf 3 s t 0 = zz (s (t 0)) - cf 3 s t 1 * ps t 0 - cf 3 s t 2 * ps t 0 * ps t 0 := fun t => by simp [cf, cf0]
    have p : ∀ i, i < 3 → ps t i = ps t' i := fun i hi => by unfold ps; rw [h i hi]
    have q2 : cf 3 s t 2 = cf 3 s t' 2 := by rw [e2, e2, h 0 (by decide), h 1 (by decide), h 2 (by decide), p 0 (by decide), p 1 (by decide), p 2 (by decide)]
    have q1 : cf 3 s t 1 = cf 3 s t' 1 := by rw [e1, e1, q2, h 0 (by decide), h 1 (by decide), p 0 (by decide), p 1 (by decide)]
    rcases (show k = 0 ∨ k = 1 ∨ k = 2 by omega) with rfl | rfl | rfl
    · rw [e0, e0, q1, q2, h 0 (by decide), p 0 (by decide)]
    · exact q1
    · exact q2
theorem onC_cg {T : Nat} {s t t' : Nat → Nat} (h : ∀ k, k < 3 → cf T s t k = cf T s t' k) (y : Nat) : onC T s t y = onC T s t' y := by
  unfold onC thr ev
  rw [h 0 (by decide), h 1 (by decide), h 2 (by decide)]
theorem onN_cg {T n : Nat} {s ky u u' : Nat → Nat} (hT : 1 ≤ T ∧ T ≤ 3) (h : ∀ i, i < T → u i = u' i) : onN T n s ky u = onN T n s ky u' :=
  cnt_cg n (fun k _ => onC_cg (fun k _ => cf_cg hT (fun i hi => by show ky (u i) = ky (u' i); rw [h i hi]) k) (ky k))
/-- other points of the same curve -/
theorem cf_on' {T : Nat} {s t t' : Nat → Nat} (hT : 1 ≤ T ∧ T ≤ 3) (hu' : Tu T t') (hon : ∀ i, i < T → onC T s t (t' i) = true) : ∀ k, k < 3 → cf T s t k = cf T s t' k := by
  have h := cf_uniq (s := s) (δ := cf T s t) hT hu' (fun k h1 _ => cf_deg h1) (fun i hi => by
    have h1 := hon i hi
    rw [onC_t] at h1
    rw [← h1, zz_thr]
    rfl)
  intro k hk
  rcases (show k = 0 ∨ k = 1 ∨ k = 2 by omega) with rfl | rfl | rfl
  · exact h.1
  · exact h.2.1
  · exact h.2.2
/-- the set of the places where P holds -/
def mk (P : Nat → Bool) : Nat → Nat
  | 0 => 0
  | k + 1 => mk P k + (P k).toNat * 2 ^ k
theorem mk_s {P : Nat → Bool} {k : Nat} : mk P (k + 1) = mk P k + (P k).toNat * 2 ^ k := Eq.trans rfl rfl
theorem mk_lt {P : Nat → Bool} : ∀ n, mk P n < 2 ^ n
  | 0 => by show 0 < 1; decide
  | n + 1 => by
    have ih := mk_lt (P := P) n
    have h2 : (P n).toNat ≤ 1 := by cases P n <;> decide
    have h3 : (P n).toNat * 2 ^ n ≤ 1 * 2 ^ n := Nat.mul_le_mul_right _ h2
    rw [mk_s, Nat.pow_succ]
    omega
theorem mk_tb {P : Nat → Bool} : ∀ n k, k < n → (mk P n).testBit k = P k
  | 0, _, h => by omega
  | n + 1, k, h => by
    have l := mk_lt (P := P) n
    rw [mk_s]
    by_cases q : k = n
    · subst q
      cases e : P k with
      | true =>
        rw [Bool.toNat_true, Nat.one_mul, Nat.add_comm, Nat.testBit_two_pow_add_eq, Nat.testBit_lt_two_pow l]
        rfl
      | false => rw [Bool.toNat_false, Nat.zero_mul, Nat.add_zero, Nat.testBit_lt_two_pow l]
    · have ih := mk_tb (P := P) n k (by omega)
      cases e : P n with
      | true =>
        rw [Bool.toNat_true, Nat.one_mul, Nat.add_comm, Nat.testBit_two_pow_add_gt (by omega)]
        exact ih
      | false => rw [Bool.toNat_false, Nat.zero_mul, Nat.add_zero]; exact ih
theorem pop_n {x n : Nat} (hn : n ≤ 8) (hx : x < 2 ^ n) : pop x = cnt (fun k => x.testBit k) n := cnt_tail hn (fun k h1 _ => tb_hi hx h1)
theorem mk_pop {P : Nat → Bool} {n : Nat} (hn : n ≤ 8) : pop (mk P n) = cnt P n := by
  rw [pop_n hn (mk_lt n)]
  exact cnt_cg n (fun k hk => mk_tb n k hk)
/-- T members at least, if T of them hold P -/
theorem cnt_ge {P : Nat → Bool} {T n : Nat} {u : Nat → Nat} (h1 : ∀ i j, i < j → j < T → u i < u j) (h2 : ∀ i, i < T → u i < n ∧ P (u i) = true) : T ≤ cnt P n := by
  have h : ∀ k, k ≤ T → ∀ m, (∀ i, i < k → u i < m) → k ≤ cnt P m := by
    intro k
    induction k with
    | zero => intro _ m _; exact Nat.zero_le _
    | succ k ih =>
      intro hk m hm
      have a := ih (by omega) (u k) (fun i hi => h1 i k hi (by omega))
      have b := cnt_lt_of (P := P) (hm k (by omega)) (h2 k (by omega)).2
      omega
  exact h T (Nat.le_refl T) n (fun i hi => (h2 i hi).1)
theorem most_CS {T n : Nat} {s ky : Nat → Nat} (hT : 1 ≤ T ∧ T ≤ 3) (hTn : T ≤ n) (hn : n ≤ 8) (hs : ∀ k, k < 8 → s k ≤ 96) (hu : Tu n ky) : mx (fC T n s ky) (2 ^ n) = mx (fS T s ky) (2 ^ n) := by
  have self : ∀ x, x < 2 ^ n → T ≤ pop x → ∀ i, i < T → onC T s (fun i => ky (sel x i)) (ky (sel x i)) = true := fun x hx hp i hi => onC_self (t := fun i => ky (sel x i)) hT (tu_sel hu hn hx hp) hs hi
  refine Nat.le_antisymm (mx_le _ fun x hx => ?_) (mx_le _ fun y hy => ?_)
  · rw [fC_at]
    by_cases q : pop x = T
    · rw [if_pos q]
      have hz := mk_lt (P := fun k => onC T s (fun i => ky (sel x i)) (ky k)) n
      have hzp := mk_pop (P := fun k => onC T s (fun i => ky (sel x i)) (ky k)) hn
      have hzt := fun k hk => mk_tb (P := fun k => onC T s (fun i => ky (sel x i)) (ky k)) n k hk
      generalize mk (fun k => onC T s (fun i => ky (sel x i)) (ky k)) n = z at hz hzp hzt
      have hge : T ≤ pop z := by
        rw [hzp]
        exact cnt_ge (u := sel x) (fun i j h1 h2 => sel_lt hn hx (by omega) h1) (fun i hi => ⟨(sel_p hn hx (by omega)).1, self x hx (by omega) i hi⟩)
      have hof : ∀ k, k < pop z → onC T s (fun i => ky (sel x i)) (ky (sel z k)) = true := fun k hk => by
        obtain ⟨a1, a2, -⟩ := sel_p hn hz hk
        rw [hzt _ a1] at a2
        exact a2
      have hcf := cf_on' (t := fun i => ky (sel x i)) hT (tu_sel hu hn hz hge) (fun i hi => hof i (by omega))
      have hag : one T s (fun i => ky (sel z i)) (pop z) = true := by
        rw [one_t]
        intro k hk
        rw [← onC_cg hcf]
        exact hof k hk
      have e : fS T s ky z = pop z := by rw [fS_at, if_pos (Or.inr hag)]
      have := mx_ge (f := fS T s ky) (2 ^ n) z hz
      rw [e, hzp] at this
      exact this
    · rw [if_neg q]
      exact Nat.zero_le _
  · have hTT : ∀ y', y' < 2 ^ n → pop y' = T → onN T n s ky (sel y') ≤ mx (fC T n s ky) (2 ^ n) := fun y' h1 h2 => by
      have := mx_ge (f := fC T n s ky) (2 ^ n) y' h1
      rw [fC_at, if_pos h2] at this
      exact this
    have l := pow_le hn
    rw [fS_at]
    by_cases q : pop y ≤ T
    · rw [if_pos (Or.inl q)]
      have h0 : 2 ^ T - 1 < 2 ^ n := by
        have := Nat.pow_le_pow_right (show 0 < 2 by decide) hTn
        have := Nat.pow_pos (n := T) (show 0 < 2 by decide)
        omega
      have hp : pop (2 ^ T - 1) = T := by
        rcases (show T = 1 ∨ T = 2 ∨ T = 3 by omega) with rfl | rfl | rfl <;> decide
      have a := hTT _ h0 hp
      have b : T ≤ onN T n s ky (sel (2 ^ T - 1)) := cnt_ge (u := sel (2 ^ T - 1)) (fun i j h1 h2 => sel_lt hn h0 (by omega) h1) (fun i hi => ⟨(sel_p hn h0 (by omega)).1, self _ h0 (by omega) i hi⟩)
      omega
    · by_cases q2 : one T s (fun i => ky (sel y i)) (pop y) = true
      · rw [if_pos (Or.inr q2)]
        obtain ⟨a1, a2, a3⟩ := fst_all ⟨y, by omega⟩ ⟨T, by omega⟩ (by show T ≤ pop y; omega)
        simp only [] at a1 a2 a3
        have hz : fst3 T y < 2 ^ n := by omega
        have a4 : ∀ i, i < T → sel (fst3 T y) i = sel y i := fun i hi => a3 ⟨i, by omega⟩ hi
        generalize fst3 T y = z at hz a2 a4
        have a := hTT z hz a2
        rw [onN_cg hT a4] at a
        refine Nat.le_trans ?_ a
        rw [pop_n hn hy]
        refine cnt_mono n (fun k hk hb => ?_)
        rw [one_t] at q2
        have hk2 : cnt (fun k => y.testBit k) k < pop y := by
          rw [pop_n hn hy]
          exact cnt_lt_of (P := fun k => y.testBit k) hk hb
        have e := q2 _ hk2
        obtain ⟨b1, b2, b3⟩ := sel_p hn hy hk2
        have e2 : sel y (cnt (fun k => y.testBit k) k) = k := by
          rcases Nat.lt_trichotomy (sel y (cnt (fun k => y.testBit k) k)) k with r | r | r
          · have := cnt_lt_of (P := fun k => y.testBit k) r b2
            omega
          · exact r
          · have := cnt_lt_of (P := fun k => y.testBit k) r hb
            omega
        rw [e2] at e
        exact e
      · rw [if_neg (by simp only [not_or]; exact ⟨q, q2⟩)]
        exact Nat.zero_le _
