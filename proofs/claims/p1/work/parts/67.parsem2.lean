def RecMA (M : Mem) (tx : Nat → Nat) (L n : Nat) : Prop := ∀ i, i < n → RecM M tx L (Pp tx L i) i
def QFr (M M1 : Mem) : Prop := ∀ a b k, ¬ (a = 12 ∧ (b = 47 ∧ (k = 19 ∨ k = 21 ∨ k = 22) ∨ b = 54)) → M1 a b k = M a b k
/-- behind command k -/
def MP (M0 M : Mem) (tx : Nat → Nat) (L k : Nat) : Prop := TxM M tx L ∧ (M 12 47 19 = nI (cmdS tx L (Pp tx L k) z0).2.1 ∧ M 12 47 21 = nI (k + 1) ∧ M 12 47 22 = nI (!(cmdS tx L (Pp tx L k) z0).1).toNat) ∧ (cmdS tx L (Pp tx L k) z0).2.1 ≤ L ∧ RecMA M tx L k ∧ ((cmdS tx L (Pp tx L k) z0).1 = true → RecM M tx L (Pp tx L k) k) ∧ QFr M0 M
theorem RecM_fr {M M1 : Mem} {tx : Nat → Nat} {L p c : Nat} (h : RecM M tx L p c) (hf : ∀ k, 6 * c ≤ k → k < 6 * c + 6 → M1 12 54 k = M 12 54 k) (hc : (cmdS tx L p z0).2.2.1 ≤ 4) : RecM M1 tx L p c := by
  obtain ⟨w, h1, h2, h3, h4⟩ := h
  exact ⟨w, h1, h2, by rw [hf _ (by omega) (by omega)]; exact h3, fun j hj => by rw [hf _ (by omega) (by omega)]; exact h4 j hj⟩
theorem frm_cnt {tx : Nat → Nat} {L : Nat} : ∀ (cs : List Int32) (r : Rdr), (frmS tx L cs r).2.2.1 ≤ r.2.2.1 + nnum cs
  | [], r => Nat.le_refl _
  | c :: cs, r => by
    rw [frm_c, nnum_c]
    have h1 := opF_cnt (tx := tx) (L := L) (c := c) (r := r)
    have h2 := frm_cnt (tx := tx) (L := L) cs (opF tx L c r)
    have h3 := frm_cnt (tx := tx) (L := L) cs r
    split
    · rename_i q
      rw [if_neg (show ¬ c = 32 by rw [q]; decide)]
      split
      · omega
      · show r.2.2.1 + 1 ≤ _
        omega
    · split <;> omega
theorem cmd_cnt {tx : Nat → Nat} {L p : Nat} : (cmdS tx L p z0).2.2.1 ≤ 4 := by
  cases hw : wsel tx L p with
  | none => rw [cmd_none hw]; exact Nat.zero_le _
  | some w =>
    have a7 := (ltr_all ⟨w, (rwS_sel.1 w hw).1⟩).2.2.2.2.2.2.1
    simp only [] at a7
    have h1 := frm_cnt (tx := tx) (L := L) (frm w) (lit tx L (ltr w) (r0 p z0))
    have h2 : (lit tx L (ltr w) (r0 p z0)).2.2.1 = 0 := by rw [lit_cnt]; rfl
    rw [cmd_some hw]
    split
    · omega
    · omega
theorem m_parseL {M0 : Mem} {tx : Nat → Nat} {L : Nat} (kk : Mem → Option (Int32 × Mem)) : ∀ f N k M, f + 1 + k = 13 → f < N → 5 * k ≤ Pp tx L k → Pp tx L k ≤ L → MP M0 M tx L k → ∃ M1, f_X12_runCommands_L36 N M kk = kk M1 ∧ QFr M0 M1 ∧ TxM M1 tx L ∧ ((prS tx L (f + 1) k).1 = true → M1 12 47 22 = nI 0 ∧ (∃ p, L ≤ p ∧ p ≤ 60 ∧ M1 12 47 19 = nI p) ∧ M1 12 47 21 = nI (prS tx L (f + 1) k).2.2 ∧ RecMA M1 tx L (prS tx L (f + 1) k).2.2) ∧ ((prS tx L (f + 1) k).1 = false → M1 12 47 19 = nI (prS tx L (f + 1) k).2.1 ∧ (M1 12 47 22 = nI 1 ∨ M1 12 47 22 = nI 0 ∧ (prS tx L (f + 1) k).2.1 < L)) := by
  intro f
  induction f with
  | zero =>
    intro N k M h1 h2 h3 h4 h
    have hk : k = 12 := by omega
    obtain ⟨n, rfl⟩ : ∃ n, N = n + 1 := ⟨N - 1, by omega⟩
    obtain ⟨ht, ⟨e19, e21, e22⟩, hl, hrec, hrk, hfr⟩ := h
    have l60 := ht.1
    have hge := cmd_ge (tx := tx) (L := L) (p := Pp tx L k)
    have q : (cmdS tx L (Pp tx L k) z0).1 = false := by
      cases e : (cmdS tx L (Pp tx L k) z0).1 with
      | false => rfl
      | true => have := hge e; omega
    rw [q] at e22
    rw [f_X12_runCommands_L36.eq_2, e22, if_neg (by decide), prS_s, q, if_neg (by decide)]
    exact ⟨M, rfl, hfr, ht, fun e => (by cases e), fun _ => ⟨e19, Or.inl e22⟩⟩
  | succ f ih =>
    intro N k M h1 h2 h3 h4 h
    obtain ⟨n, rfl⟩ : ∃ n, N = n + 1 := ⟨N - 1, by omega⟩
    obtain ⟨ht, ⟨e19, e21, e22⟩, hl, hrec, hrk, hfr⟩ := h
    have l60 := ht.1
    have hge := cmd_ge (tx := tx) (L := L) (p := Pp tx L k)
    rw [f_X12_runCommands_L36.eq_2, prS_s]
    cases q : (cmdS tx L (Pp tx L k) z0).1 with
    | false =>
      rw [q] at e22
      rw [e22, if_neg (show ¬ nI (!false).toNat = 0 by decide), if_neg (by decide)]
      exact ⟨M, rfl, hfr, ht, fun e => (by cases e), fun _ => ⟨e19, Or.inl e22⟩⟩
    | true =>
      rw [q] at e22
      have e22' : M 12 47 22 = nI 0 := e22
      have g3 := hge q
      have hM : Mst M M tx L (k + 1) (true, (cmdS tx L (Pp tx L k) z0).2.1, 0, z0) := ⟨ht, ⟨e19, e21, e22⟩, ⟨hl, by omega⟩, fun _ j hj => absurd hj (Nat.not_lt_zero _), fun _ _ _ _ => rfl⟩
      have eh : f_X12_here (0 : Int32) M = some (pk tx L (cmdS tx L (Pp tx L k) z0).2.1) := m_here (j := 0) (r := (true, (cmdS tx L (Pp tx L k) z0).2.1, 0, z0)) hM (by decide)
      have e59 := pk_at (tx := tx) (L := L) (p := (cmdS tx L (Pp tx L k) z0).2.1) (c := 59) (fun i hi => (ht.2.2 i hi).2) (by decide)
      rw [e22', if_pos (show nI 0 = 0 from rfl), eh, mbp_eq, if_pos rfl]
      by_cases q2 : L ≤ (cmdS tx L (Pp tx L k) z0).2.1
      · have e2 : pk tx L (cmdS tx L (Pp tx L k) z0).2.1 = -nI 1 := if_neg (by omega)
        rw [if_pos q2, e2, if_neg (show ¬ -nI 1 = 59 by decide)]
        refine ⟨M, rfl, hfr, ht, fun _ => ⟨e22', ⟨_, q2, by omega, e19⟩, e21, fun i hi => ?_⟩, fun e => (by cases e)⟩
        have hi' : i < k + 1 := hi
        by_cases r : i = k
        · rw [r]; exact hrk q
        · exact hrec i (by omega)
      · rw [if_neg q2]
        by_cases q3 : isAt tx L (cmdS tx L (Pp tx L k) z0).2.1 59 = true
        · have e3 : pk tx L (cmdS tx L (Pp tx L k) z0).2.1 = nI 59 := by rw [e59]; exact q3
          rw [if_pos q3, if_pos (show pk tx L (cmdS tx L (Pp tx L k) z0).2.1 = 59 from e3), mlet_eq, e19, lit_1, nI_add]
          have hS : Mst (mup M 12 47 19 (nI ((cmdS tx L (Pp tx L k) z0).2.1 + 1))) (mup M 12 47 19 (nI ((cmdS tx L (Pp tx L k) z0).2.1 + 1))) tx L (k + 1) (r0 (Pp tx L (k + 1)) z0) := by
            refine ⟨⟨l60, ?_, fun i hi => ?_⟩, ⟨?_, ?_, ?_⟩, ⟨?_, by omega⟩, fun _ j hj => absurd hj (Nat.not_lt_zero _), fun _ _ _ _ => rfl⟩
            · rw [mup_at, if_neg (by decide)]; exact ht.2.1
            · rw [mup_at, if_neg (by omega)]; exact ht.2.2 i hi
            · rw [mup_at, if_pos (by decide)]; rfl
            · rw [mup_at, if_neg (by decide)]; exact e21
            · rw [mup_at, if_neg (by decide)]; exact e22'
            · show (cmdS tx L (Pp tx L k) z0).2.1 + 1 ≤ L
              omega
          obtain ⟨⟨⟩, M1, k1, ⟨r1, ⟨r2, r3, r4⟩, r5, r6, r7⟩⟩ := m_readsOne hS
          rw [k1, mbnd_eq]
          refine ih n (k + 1) M1 (by omega) (by omega) (by rw [Pp_s]; omega) (by rw [Pp_s]; omega) ⟨r1, ⟨r2, r3, r4⟩, r5, fun i hi => ?_, r6, fun a b j hab => ?_⟩
          · have f54 : ∀ j, 6 * i ≤ j → j < 6 * i + 6 → M1 12 54 j = M 12 54 j := fun j h1 h2 => by rw [r7 12 54 j (by omega), mup_at, if_neg (by omega)]
            by_cases r : i = k
            · rw [r] at f54 ⊢
              exact RecM_fr (hrk q) f54 cmd_cnt
            · exact RecM_fr (hrec i (by omega)) f54 cmd_cnt
          · rw [r7 a b j (by omega), mup_at, if_neg (by omega)]
            exact hfr a b j hab
        · have e3 : ¬ pk tx L (cmdS tx L (Pp tx L k) z0).2.1 = nI 59 := by rw [e59]; exact q3
          rw [if_neg q3, if_neg (show ¬ pk tx L (cmdS tx L (Pp tx L k) z0).2.1 = 59 from e3)]
          exact ⟨M, rfl, hfr, ht, fun e => (by cases e), fun _ => ⟨e19, Or.inr ⟨e22', by show (cmdS tx L (Pp tx L k) z0).2.1 < L; omega⟩⟩⟩
